import java.util.ArrayList;
import java.util.List;

/**
 * The document's promises a second time, with the Java library and another way of holding the
 * state, so that a slip in BagRows shows as a difference between the two.
 */
final class PlainModel {
  private static final int UNKNOWN = -11, OUTSIDE = -12, STATE = -13, ROOM = -14;

  private static class Thing {
    final int number;
    Box lair;
    int spot;

    Thing(int number) {
      this.number = number;
    }

    int kind() {
      return -1;
    }

    long grams() {
      return 5 + 10 * (number % 50);
    }

    int many() {
      return 1;
    }

    int spotNow() {
      return lair == null ? spot : lair.spotNow();
    }
  }

  private static final class Box extends Thing {
    final int kind;
    final List<Thing> things = new ArrayList<>();
    List<Thing> list = new ArrayList<>();
    final List<Thing> seen = new ArrayList<>();
    final List<Thing> extras = new ArrayList<>();
    final List<Integer> weighings = new ArrayList<>();
    boolean shut;
    boolean onceShut;
    long seal;
    long read;
    int closer;

    Box(int number, int kind) {
      super(number);
      this.kind = kind;
    }

    @Override
    int kind() {
      return kind;
    }

    @Override
    long grams() {
      long sum = 100 * kind + 100;
      for (Thing thing : things) {
        sum += thing.grams();
      }
      return sum;
    }

    @Override
    int many() {
      int sum = 1;
      for (Thing thing : things) {
        sum += thing.many();
      }
      return sum;
    }

    boolean locked() {
      return shut || (lair != null && lair.locked());
    }

    /** Each difference as its sort and its detail. */
    List<int[]> differences() {
      List<int[]> all = new ArrayList<>();
      if (read != seal) {
        all.add(new int[] {0, (int) read});
      }
      for (int i = 0; i < weighings.size() && i < 6; i++) {
        all.add(new int[] {1, weighings.get(i)});
      }
      for (Thing thing : list) {
        if (!seen.contains(thing)) {
          all.add(new int[] {2, thing.number});
        }
      }
      for (Thing thing : extras) {
        all.add(new int[] {3, thing.number});
      }
      return all;
    }
  }

  private final List<Thing> items = new ArrayList<>();
  private final List<Box> boxes = new ArrayList<>();
  private final List<Long> notes = new ArrayList<>();
  private long time;

  PlainModel() {
    for (int number = 1; number <= 999; number++) {
      items.add(new Thing(number));
    }
  }

  private Box box(int number) {
    return number >= 1001 && number <= 1000 + boxes.size() ? boxes.get(number - 1001) : null;
  }

  private Thing thing(int number) {
    return number >= 1 && number <= 999 ? items.get(number - 1) : box(number);
  }

  private static boolean between(long low, long number, long high) {
    return low <= number && number <= high;
  }

  int bag(int kind) {
    if (!between(0, kind, 3)) {
      return OUTSIDE;
    }
    if (boxes.size() == 60) {
      return ROOM;
    }
    boxes.add(new Box(1001 + boxes.size(), kind));
    return 1000 + boxes.size();
  }

  int into(int bag, int number) {
    Box box = box(bag);
    Thing thing = thing(number);
    if (box == null || thing == null) {
      return UNKNOWN;
    }
    if (box.locked() || thing.lair != null || thing == box || thing.kind() >= box.kind
        || thing.spotNow() != box.spotNow()) {
      return STATE;
    }
    if (box.things.size() == 12) {
      return ROOM;
    }
    box.things.add(thing);
    thing.lair = box;
    return 1;
  }

  int take(int number) {
    Thing thing = thing(number);
    if (thing == null) {
      return UNKNOWN;
    }
    if (thing.lair == null || thing.lair.locked()) {
      return STATE;
    }
    int from = thing.lair.number;
    thing.spot = thing.spotNow();
    thing.lair.things.remove(thing);
    thing.lair = null;
    return from;
  }

  int close(int bag, long seal, int who) {
    Box box = box(bag);
    if (box == null) {
      return UNKNOWN;
    }
    if (!between(1, seal, 1000000000L) || !between(0, who, 49)) {
      return OUTSIDE;
    }
    if (box.locked()) {
      return STATE;
    }
    box.shut = true;
    box.onceShut = true;
    box.seal = seal;
    box.closer = who;
    box.list = new ArrayList<>(box.things);
    box.weighings.clear();
    return box.list.size();
  }

  int open(int bag, long seal, int a, int b) {
    Box box = box(bag);
    if (box == null) {
      return UNKNOWN;
    }
    if (!between(1, seal, 1000000000L) || !between(0, a, 49) || !between(-1, b, 49)) {
      return OUTSIDE;
    }
    boolean asSaid = box.kind <= 1 ? b == -1 && a != box.closer : b != -1 && a != b;
    if (!box.shut || (box.lair != null && box.lair.locked()) || !asSaid) {
      return STATE;
    }
    box.shut = false;
    box.read = seal;
    box.seen.clear();
    box.extras.clear();
    if (seal == box.seal) {
      return 1;
    }
    notes.add(time);
    return -1;
  }

  int found(int bag, int number) {
    Box box = box(bag);
    Thing thing = thing(number);
    if (box == null || thing == null) {
      return UNKNOWN;
    }
    if (box.shut || !box.onceShut || thing == box || thing.kind() >= box.kind) {
      return STATE;
    }
    for (Box above = box.lair; above != null; above = above.lair) {
      if (above == thing) {
        return STATE;
      }
    }
    if (box.list.contains(thing)) {
      box.seen.add(thing);
      return 1;
    }
    if (box.extras.contains(thing)) {
      return 0;
    }
    if (box.extras.size() == 12 || (thing.lair != box && box.things.size() == 12)) {
      return ROOM;
    }
    if (thing.lair != box) {
      if (thing.lair != null) {
        thing.lair.things.remove(thing);
      }
      box.things.add(thing);
      thing.lair = box;
    }
    box.extras.add(thing);
    notes.add(time);
    return 0;
  }

  int differ(int bag, int i, int what) {
    Box box = box(bag);
    if (box == null) {
      return UNKNOWN;
    }
    if (!between(0, what, 1)) {
      return OUTSIDE;
    }
    if (box.shut || !box.onceShut) {
      return STATE;
    }
    List<int[]> all = box.differences();
    return between(0, i, all.size() - 1) ? all.get(i)[what] : -1;
  }

  int inside(int number) {
    Thing thing = thing(number);
    if (thing == null) {
      return UNKNOWN;
    }
    return thing.lair == null ? 0 : thing.lair.number;
  }

  int weight(int bag, long measured) {
    Box box = box(bag);
    if (box == null) {
      return UNKNOWN;
    }
    if (!between(0, measured, 1000000000L)) {
      return OUTSIDE;
    }
    long grams = box.grams();
    if (between(grams - grams / 50, measured, grams + grams / 50)) {
      return 1;
    }
    box.weighings.add((int) measured);
    notes.add(time);
    return 0;
  }

  int document(int bag, int i) {
    Box box = box(bag);
    if (box == null) {
      return UNKNOWN;
    }
    return between(0, i, box.list.size() - 1) ? box.list.get(i).number : 0;
  }

  int move(int bag, int to) {
    Box box = box(bag);
    if (box == null) {
      return UNKNOWN;
    }
    if (!between(0, to, 9)) {
      return OUTSIDE;
    }
    if (!box.shut || box.lair != null) {
      return STATE;
    }
    box.spot = to;
    return box.many();
  }

  int place(int number) {
    Thing thing = thing(number);
    return thing == null ? UNKNOWN : thing.spotNow();
  }

  int tick(long t) {
    if (!between(time, t, 1000000000000L)) {
      return OUTSIDE;
    }
    int due = 0;
    for (long came : notes) {
      if (between(time + 1, came + 100, t)) {
        due++;
      }
    }
    time = t;
    return due;
  }
}
