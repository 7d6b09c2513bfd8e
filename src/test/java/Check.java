/** Compares answers with what is due, and ends the program with exit code 1 if one was not. */
final class Check {
  private static int wrong = 0;
  private static String sentence = "";

  private Check() {}

  /** The words of the document that the comparisons from here on test. */
  static void sentence(String words) {
    sentence = words;
  }

  static void due(String call, long got, long want) {
    if (got != want) {
      wrong++;
      System.out.println(call + " answered " + got + ", due is " + want + said());
    }
  }

  static void holds(String what, boolean it) {
    if (!it) {
      wrong++;
      System.out.println("does not hold: " + what + said());
    }
  }

  private static String said() {
    return sentence.isEmpty() ? "" : ", for \"" + sentence + "\"";
  }

  static int wrongSoFar() {
    return wrong;
  }

  static void end() {
    if (wrong != 0) {
      System.exit(1);
    }
  }

  /** A new object with receptacles 1001, 1002, .. of these kinds. */
  static BagRows withKinds(int... kinds) {
    BagRows x = new BagRows();
    for (int i = 0; i < kinds.length; i++) {
      due("bag(" + kinds[i] + ")", x.bag(kinds[i]), 1001 + i);
    }
    return x;
  }

  /** Receptacles 1001 .. 1004 of kinds 0 .. 3, each in the next. */
  static BagRows nested() {
    BagRows x = withKinds(0, 1, 2, 3);
    for (int bag = 1002; bag <= 1004; bag++) {
      into(x, bag, bag - 1);
    }
    return x;
  }

  static void into(BagRows x, int bag, int... things) {
    for (int thing : things) {
      due("into(" + bag + ", " + thing + ")", x.into(bag, thing), 1);
    }
  }

  /** Puts items first .. last into a receptacle. */
  static void fill(BagRows x, int bag, int first, int last) {
    for (int item = first; item <= last; item++) {
      into(x, bag, item);
    }
  }

  /** Closes a receptacle with seal 1, by person 0. */
  static void close(BagRows x, int bag) {
    holds("close(" + bag + ", 1, 0)", x.close(bag, 1, 0) >= 0);
  }

  /** Opens a receptacle that close has closed; kinds 0 and 1 are opened by one, 2 and 3 by two. */
  static void open(BagRows x, int bag, int kind) {
    due("open(" + bag + ", 1, 1, ..)", x.open(bag, 1, 1, kind < 2 ? -1 : 2), 1);
  }

  /** Closes and opens a receptacle, so that it is checked against what lies in it now. */
  static void reopen(BagRows x, int bag, int kind) {
    close(x, bag);
    open(x, bag, kind);
  }

  /** Closes an open receptacle that lies in none, brings it to a place, and opens it there. */
  static void bring(BagRows x, int bag, int kind, int to) {
    close(x, bag);
    holds("move(" + bag + ", " + to + ")", x.move(bag, to) >= 1);
    open(x, bag, kind);
  }

  /** Closes a receptacle, and compares its list with these things. */
  static void holdsInOrder(BagRows x, int bag, int... things) {
    due("close(" + bag + ", 1, 0)", x.close(bag, 1, 0), things.length);
    for (int i = 0; i < things.length; i++) {
      due("document(" + bag + ", " + i + ")", x.document(bag, i), things[i]);
    }
    due("document(" + bag + ", " + things.length + ")", x.document(bag, things.length), 0);
  }

  /** Compares all the differences of a receptacle with these: each as its sort and its detail. */
  static void differences(BagRows x, int bag, int... sortsAndDetails) {
    int count = sortsAndDetails.length / 2;
    for (int i = 0; i < count; i++) {
      due("differ(" + bag + ", " + i + ", 0)", x.differ(bag, i, 0), sortsAndDetails[2 * i]);
      due("differ(" + bag + ", " + i + ", 1)", x.differ(bag, i, 1), sortsAndDetails[2 * i + 1]);
    }
    due("differ(" + bag + ", " + count + ", 0)", x.differ(bag, count, 0), -1);
    due("differ(" + bag + ", " + count + ", 1)", x.differ(bag, count, 1), -1);
  }

  /** Both edges of what counts as right for a receptacle of this weight. */
  static void weighs(BagRows x, int bag, long weight) {
    String call = "weight of " + bag + ", which is " + weight + ": ";
    long fiftieth = weight / 50;
    due(call + "exact", x.weight(bag, weight), 1);
    due(call + "most", x.weight(bag, weight + fiftieth), 1);
    due(call + "too much", x.weight(bag, weight + fiftieth + 1), 0);
    due(call + "least", x.weight(bag, weight - fiftieth), 1);
    due(call + "too little", x.weight(bag, weight - fiftieth - 1), 0);
  }
}
