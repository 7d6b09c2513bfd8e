/** Compares answers with what is due, and ends the program with exit code 1 if one was not. */
final class Check {
  private static int wrong = 0;

  private Check() {}

  static void due(String call, long got, long want) {
    if (got != want) {
      wrong++;
      System.out.println(call + " answered " + got + ", due is " + want);
    }
  }

  static void holds(String what, boolean it) {
    if (!it) {
      wrong++;
      System.out.println("does not hold: " + what);
    }
  }

  static int wrongSoFar() {
    return wrong;
  }

  static void end() {
    if (wrong != 0) {
      System.exit(1);
    }
  }

  /** A new object with receptacles 1001, 1002, .. of these kinds. */
  static BagRows withKinds(int... kinds) {
    BagRows x = new BagRows();
    for (int i = 0; i < kinds.length; i++) {
      due("bag(" + kinds[i] + ")", x.bag(kinds[i]), 1001 + i);
    }
    return x;
  }

  /** Puts items first .. last into a receptacle. */
  static void fill(BagRows x, int bag, int first, int last) {
    for (int item = first; item <= last; item++) {
      due("into(" + bag + ", " + item + ")", x.into(bag, item), 1);
    }
  }
}
