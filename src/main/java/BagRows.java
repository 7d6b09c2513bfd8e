/**
 * Bags, trays, cages and containers of a post, one in the other: filled, sealed, moved, opened and
 * compared with what they should hold. The document (DOC.md) says what each method promises.
 */
public final class BagRows {
  public static final int UNKNOWN = -11, OUTSIDE = -12, STATE = -13, ROOM = -14;

  private static final int LAST_ITEM = 999;
  private static final int NUMBER_BEFORE_RECEPTACLES = 1000;
  private static final int MOST_RECEPTACLES = 60;
  private static final int THING_NUMBERS = NUMBER_BEFORE_RECEPTACLES + MOST_RECEPTACLES + 1;
  private static final int GREATEST_KIND = 3;
  private static final int KIND_OF_ITEMS = -1;
  private static final int LEAST_KIND_OPENED_BY_TWO = 2;
  private static final int MOST_THINGS = 12;
  private static final int MOST_WEIGHINGS = 6;
  private static final int LAST_PERSON = 49;
  private static final int NO_PERSON = -1;
  private static final int LAST_PLACE = 9;
  private static final int NOWHERE = 0;
  private static final long GREATEST_SEAL = 1000000000L;
  private static final long GREATEST_MEASURE = 1000000000L;
  private static final long LAST_TIME = 1000000000000L;
  private static final long NOTE_DELAY = 100;
  private static final int MOST_NOTES = 512;
  private static final int SORT_SEAL = 0, SORT_WEIGHING = 1, SORT_MISSING = 2, SORT_EXTRA = 3;
  private static final int ASK_SORT = 0, ASK_DETAIL = 1;
  private static final int NO_DIFFERENCE = -1;

  private final Receptacle[] receptacles;
  private int receptacleCount;
  /** By a thing's number: the receptacle in which it lies, or NOWHERE. */
  private final int[] holders;
  /** By a thing's number: its place, which counts only while the thing lies in none. */
  private final int[] ownPlaces;
  private final Notes notes;
  private long time;

  public BagRows() {
    receptacles = new Receptacle[MOST_RECEPTACLES];
    holders = new int[THING_NUMBERS];
    ownPlaces = new int[THING_NUMBERS];
    notes = new Notes();
  }

  public int bag(int kind) {
    if (kind < 0 || kind > GREATEST_KIND) {
      return OUTSIDE;
    }
    int index = receptacleCount;
    if (index < 0 || index >= receptacles.length) {
      return ROOM;
    }
    receptacles[index] = new Receptacle(kind);
    receptacleCount = index + 1;
    return NUMBER_BEFORE_RECEPTACLES + receptacleCount;
  }

  public int into(int bag, int thing) {
    Receptacle receptacle = receptacleOf(bag);
    if (receptacle == null || !isThing(thing)) {
      return UNKNOWN;
    }
    if (isShut(bag) || holderOf(thing) != NOWHERE || !isLesser(thing, receptacle)
        || placeOf(thing) != placeOf(bag)) {
      return STATE;
    }
    if (receptacle.content.isFull()) {
      return ROOM;
    }
    putIn(receptacle, bag, thing);
    return 1;
  }

  public int take(int thing) {
    if (!isThing(thing)) {
      return UNKNOWN;
    }
    int holder = holderOf(thing);
    if (holder == NOWHERE || isShut(holder)) {
      return STATE;
    }
    takeOut(thing);
    return holder;
  }

  public int close(int bag, long seal, int who) {
    Receptacle receptacle = receptacleOf(bag);
    if (receptacle == null) {
      return UNKNOWN;
    }
    if (!isSeal(seal) || !isPerson(who)) {
      return OUTSIDE;
    }
    if (isShut(bag)) {
      return STATE;
    }
    receptacle.shut(seal, who);
    return receptacle.list.size();
  }

  public int open(int bag, long seal, int a, int b) {
    Receptacle receptacle = receptacleOf(bag);
    if (receptacle == null) {
      return UNKNOWN;
    }
    if (!isSeal(seal) || !isPerson(a) || !(b == NO_PERSON || isPerson(b))) {
      return OUTSIDE;
    }
    if (!receptacle.closed || isShut(holderOf(bag)) || !receptacle.mayBeOpenedBy(a, b)) {
      return STATE;
    }
    if (receptacle.unseal(seal)) {
      return 1;
    }
    notes.add(time + NOTE_DELAY);
    return -1;
  }

  public int found(int bag, int thing) {
    Receptacle receptacle = receptacleOf(bag);
    if (receptacle == null || !isThing(thing)) {
      return UNKNOWN;
    }
    // A receptacle in which this one lies is of a greater kind, so the kinds refuse it too.
    if (!receptacle.isChecked() || !isLesser(thing, receptacle)) {
      return STATE;
    }
    if (receptacle.list.holds(thing)) {
      receptacle.missing.remove(thing);
      return 1;
    }
    if (receptacle.extras.holds(thing)) {
      return 0;
    }
    return foundExtra(receptacle, bag, thing);
  }

  public int differ(int bag, int i, int what) {
    Receptacle receptacle = receptacleOf(bag);
    if (receptacle == null) {
      return UNKNOWN;
    }
    if (what != ASK_SORT && what != ASK_DETAIL) {
      return OUTSIDE;
    }
    if (!receptacle.isChecked()) {
      return STATE;
    }
    int rest = i;
    for (int sort = SORT_SEAL; sort <= SORT_EXTRA && rest >= 0; sort++) {
      Row row = receptacle.differencesOf(sort);
      if (rest < row.size()) {
        return what == ASK_SORT ? sort : row.at(rest);
      }
      rest -= row.size();
    }
    return NO_DIFFERENCE;
  }

  public int inside(int thing) {
    return isThing(thing) ? holderOf(thing) : UNKNOWN;
  }

  public int weight(int bag, long measured) {
    Receptacle receptacle = receptacleOf(bag);
    if (receptacle == null) {
      return UNKNOWN;
    }
    if (measured < 0 || measured > GREATEST_MEASURE) {
      return OUTSIDE;
    }
    long due = weightOf(bag);
    if (Math.abs(measured - due) <= due / 50) {
      return 1;
    }
    receptacle.wrongWeighings.append((int) measured);
    notes.add(time + NOTE_DELAY);
    return 0;
  }

  public int document(int bag, int i) {
    Receptacle receptacle = receptacleOf(bag);
    return receptacle == null ? UNKNOWN : receptacle.list.at(i);
  }

  public int move(int bag, int to) {
    Receptacle receptacle = receptacleOf(bag);
    if (receptacle == null) {
      return UNKNOWN;
    }
    if (to < 0 || to > LAST_PLACE) {
      return OUTSIDE;
    }
    if (!receptacle.closed || holderOf(bag) != NOWHERE) {
      return STATE;
    }
    setOwnPlace(bag, to);
    return thingsOf(bag);
  }

  public int place(int thing) {
    return isThing(thing) ? placeOf(thing) : UNKNOWN;
  }

  public int tick(long t) {
    if (t < time || t > LAST_TIME) {
      return OUTSIDE;
    }
    time = t;
    return notes.tellUntil(t);
  }

  private static boolean isSeal(long seal) {
    return seal >= 1 && seal <= GREATEST_SEAL;
  }

  private static boolean isPerson(int who) {
    return who >= 0 && who <= LAST_PERSON;
  }

  private static boolean isItem(int thing) {
    return thing >= 1 && thing <= LAST_ITEM;
  }

  private boolean isThing(int thing) {
    return isItem(thing) || receptacleOf(thing) != null;
  }

  /** The receptacle of this number; null if there is none. */
  private Receptacle receptacleOf(int number) {
    // The first test keeps the subtraction from wrapping around.
    if (number <= NUMBER_BEFORE_RECEPTACLES) {
      return null;
    }
    int index = number - NUMBER_BEFORE_RECEPTACLES - 1;
    return index < receptacles.length ? receptacles[index] : null;
  }

  private int holderOf(int thing) {
    return thing >= 0 && thing < holders.length ? holders[thing] : NOWHERE;
  }

  private void setHolder(int thing, int holder) {
    if (thing >= 0 && thing < holders.length) {
      holders[thing] = holder;
    }
  }

  private void setOwnPlace(int thing, int to) {
    if (thing >= 0 && thing < ownPlaces.length) {
      ownPlaces[thing] = to;
    }
  }

  private int placeOf(int thing) {
    int outermost = thing;
    for (int depth = 0; depth < MOST_RECEPTACLES && holderOf(outermost) != NOWHERE; depth++) {
      outermost = holderOf(outermost);
    }
    return outermost >= 0 && outermost < ownPlaces.length ? ownPlaces[outermost] : 0;
  }

  /** Whether a receptacle is closed or lies in a closed one, at whatever depth; not for NOWHERE. */
  private boolean isShut(int bag) {
    int at = bag;
    for (int depth = 0; depth <= MOST_RECEPTACLES && at != NOWHERE; depth++) {
      Receptacle receptacle = receptacleOf(at);
      if (receptacle != null && receptacle.closed) {
        return true;
      }
      at = holderOf(at);
    }
    return false;
  }

  /** Whether a thing is a receptacle or lies in it, at whatever depth. */
  private boolean isWithin(int thing, int bag) {
    int at = thing;
    for (int depth = 0; depth <= MOST_RECEPTACLES && at != NOWHERE; depth++) {
      if (at == bag) {
        return true;
      }
      at = holderOf(at);
    }
    return false;
  }

  /** Whether a thing's kind lets it lie in the receptacle, which no receptacle's does in itself. */
  private boolean isLesser(int thing, Receptacle receptacle) {
    Receptacle inner = receptacleOf(thing);
    int kind = inner == null ? KIND_OF_ITEMS : inner.kind;
    return kind < receptacle.kind;
  }

  private void putIn(Receptacle receptacle, int bag, int thing) {
    receptacle.content.append(thing);
    setHolder(thing, bag);
  }

  private void takeOut(int thing) {
    Receptacle holder = receptacleOf(holderOf(thing));
    if (holder != null) {
      setOwnPlace(thing, placeOf(thing));
      holder.content.remove(thing);
      setHolder(thing, NOWHERE);
    }
  }

  private int foundExtra(Receptacle receptacle, int bag, int thing) {
    // What lies there already has its room, and keeps its turn in the order.
    boolean comesIn = holderOf(thing) != bag;
    if (receptacle.extras.isFull() || (comesIn && receptacle.content.isFull())) {
      return ROOM;
    }
    if (comesIn) {
      takeOut(thing);
      putIn(receptacle, bag, thing);
    }
    receptacle.extras.append(thing);
    notes.add(time + NOTE_DELAY);
    return 0;
  }

  private long weightOf(int bag) {
    long sum = 0;
    for (int i = 0; i < receptacleCount && i < receptacles.length; i++) {
      Receptacle receptacle = receptacles[i];
      if (receptacle != null && isWithin(NUMBER_BEFORE_RECEPTACLES + 1 + i, bag)) {
        sum += 100L * receptacle.kind + 100 + weightOfItems(receptacle.content);
      }
    }
    return sum;
  }

  private static long weightOfItems(Row content) {
    long sum = 0;
    for (int i = 0; i < content.size(); i++) {
      int thing = content.at(i);
      if (isItem(thing)) {
        sum += 5 + 10 * (thing % 50);
      }
    }
    return sum;
  }

  /** How many things a receptacle and all that lies in it are. */
  private int thingsOf(int bag) {
    int sum = 1;
    for (int i = 0; i < receptacleCount && i < receptacles.length; i++) {
      Receptacle receptacle = receptacles[i];
      if (receptacle != null && isWithin(NUMBER_BEFORE_RECEPTACLES + 1 + i, bag)) {
        sum += receptacle.content.size();
      }
    }
    return sum;
  }

  private static final class Receptacle {
    final int kind;
    boolean closed;
    boolean everClosed;
    private long seal;
    private int closer;
    final Row content;
    final Row list;
    private final Row wrongSeals;
    final Row wrongWeighings;
    final Row missing;
    final Row extras;

    Receptacle(int kind) {
      this.kind = kind;
      content = new Row(MOST_THINGS);
      list = new Row(MOST_THINGS);
      wrongSeals = new Row(1);
      wrongWeighings = new Row(MOST_WEIGHINGS);
      missing = new Row(MOST_THINGS);
      extras = new Row(MOST_THINGS);
    }

    void shut(long newSeal, int who) {
      closed = true;
      everClosed = true;
      seal = newSeal;
      closer = who;
      list.becomeLike(content);
      wrongWeighings.clear();
    }

    boolean mayBeOpenedBy(int a, int b) {
      if (kind >= LEAST_KIND_OPENED_BY_TWO) {
        return b != NO_PERSON && a != b;
      }
      return b == NO_PERSON && a != closer;
    }

    /** Opens it, and tells whether the seal that is read is the one that it was closed with. */
    boolean unseal(long readSeal) {
      closed = false;
      wrongSeals.clear();
      missing.becomeLike(list);
      extras.clear();
      if (readSeal == seal) {
        return true;
      }
      wrongSeals.append((int) readSeal);
      return false;
    }

    /** Whether it is open and was closed before, so that there is a list to check it against. */
    boolean isChecked() {
      return !closed && everClosed;
    }

    Row differencesOf(int sort) {
      switch (sort) {
        case SORT_SEAL:
          return wrongSeals;
        case SORT_WEIGHING:
          return wrongWeighings;
        case SORT_MISSING:
          return missing;
        default:
          return extras;
      }
    }
  }

  /** Numbers in the order in which they came, up to a bound; more are not kept. */
  private static final class Row {
    private final int[] numbers;
    private int size;

    Row(int most) {
      numbers = new int[most < 0 ? 0 : most];
    }

    int size() {
      return size;
    }

    boolean isFull() {
      return size >= numbers.length;
    }

    /** Number i, 0 the first; 0 when there is none such. */
    int at(int i) {
      return i >= 0 && i < size && i < numbers.length ? numbers[i] : 0;
    }

    boolean holds(int number) {
      for (int i = 0; i < size && i < numbers.length; i++) {
        if (numbers[i] == number) {
          return true;
        }
      }
      return false;
    }

    void append(int number) {
      if (size >= 0 && size < numbers.length) {
        numbers[size] = number;
        size++;
      }
    }

    void remove(int number) {
      int kept = 0;
      for (int i = 0; i < size && i < numbers.length; i++) {
        // kept never runs ahead of i; the test says so where the index is used.
        if (numbers[i] != number && kept <= i) {
          numbers[kept] = numbers[i];
          kept++;
        }
      }
      size = kept;
    }

    void clear() {
      size = 0;
    }

    void becomeLike(Row other) {
      clear();
      for (int i = 0; i < other.size(); i++) {
        append(other.at(i));
      }
    }
  }

  /** The times at which notes are due; they come in the order of time, and each is told once. */
  private static final class Notes {
    private final long[] dueTimes;
    private int count;
    private int told;

    Notes() {
      dueTimes = new long[MOST_NOTES];
    }

    void add(long due) {
      if (count >= 0 && count < dueTimes.length) {
        dueTimes[count] = due;
        count++;
      }
    }

    int tellUntil(long now) {
      int before = told;
      for (int i = before; i >= 0 && i < count && i < dueTimes.length && dueTimes[i] <= now; i++) {
        told = i + 1;
      }
      return told - before;
    }
  }
}
