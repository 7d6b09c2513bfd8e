/** Promise 10: weight compares what is measured with what a receptacle weighs. */
public final class Promise10WeightTest {
  public static void main(String[] args) {
    empty();
    items();
    allThatLiesInIt();
    whileClosedOrInside();
    notes();
    refusals();
    Check.end();
  }

  /** Both edges of what counts as right for a receptacle of this weight. */
  private static void weighs(BagRows x, int bag, long due) {
    long off = due / 50;
    Check.due(bag + " of " + due + ", exact", x.weight(bag, due), 1);
    Check.due(bag + " of " + due + ", most", x.weight(bag, due + off), 1);
    Check.due(bag + " of " + due + ", too much", x.weight(bag, due + off + 1), 0);
    Check.due(bag + " of " + due + ", least", x.weight(bag, due - off), 1);
    Check.due(bag + " of " + due + ", too little", x.weight(bag, due - off - 1), 0);
  }

  private static void empty() {
    BagRows x = Check.withKinds(0, 1, 2, 3);
    weighs(x, 1001, 100);
    weighs(x, 1002, 200);
    weighs(x, 1003, 300);
    weighs(x, 1004, 400);
  }

  private static void items() {
    int[] items = {1, 49, 50, 51, 99, 100, 999};
    int[] weights = {15, 495, 5, 15, 495, 5, 495};
    BagRows x = Check.withKinds(0);
    long sum = 100;
    for (int i = 0; i < items.length; i++) {
      Check.due("into(1001, " + items[i] + ")", x.into(1001, items[i]), 1);
      sum += weights[i];
      weighs(x, 1001, sum);
    }
    Check.due("take(49)", x.take(49), 1001);
    weighs(x, 1001, sum - 495);
  }

  private static void allThatLiesInIt() {
    BagRows x = Check.withKinds(0, 1, 2, 3, 0);
    Check.due("into(1001, 4)", x.into(1001, 4), 1);
    Check.due("into(1002, 1001)", x.into(1002, 1001), 1);
    Check.due("into(1002, 3)", x.into(1002, 3), 1);
    Check.due("into(1003, 1002)", x.into(1003, 1002), 1);
    Check.due("into(1003, 1005)", x.into(1003, 1005), 1);
    Check.due("into(1004, 1003)", x.into(1004, 1003), 1);
    weighs(x, 1001, 145);
    weighs(x, 1002, 380);
    weighs(x, 1003, 780);
    weighs(x, 1004, 1180);
    weighs(x, 1005, 100);
  }

  private static void whileClosedOrInside() {
    BagRows x = Check.withKinds(0, 3);
    Check.due("into(1001, 7)", x.into(1001, 7), 1);
    Check.due("into(1002, 1001)", x.into(1002, 1001), 1);
    Check.due("close(1002)", x.close(1002, 1, 0), 1);
    weighs(x, 1001, 175);
    weighs(x, 1002, 575);
  }

  private static void notes() {
    BagRows x = Check.withKinds(0);
    Check.due("wrong", x.weight(1001, 0), 0);
    Check.due("right", x.weight(1001, 100), 1);
    Check.due("outside", x.weight(1001, -1), BagRows.OUTSIDE);
    Check.due("wrong", x.weight(1001, 1000000000L), 0);
    Check.due("two notes", x.tick(100), 2);
  }

  private static void refusals() {
    BagRows x = Check.withKinds(0);
    int[] none = {0, 1, 999, 1000, 1002, 1061, Integer.MIN_VALUE, Integer.MAX_VALUE};
    for (int number : none) {
      Check.due("weight(" + number + ", -1)", x.weight(number, -1), BagRows.UNKNOWN);
    }
    Check.due("-1", x.weight(1001, -1), BagRows.OUTSIDE);
    Check.due("10^9 + 1", x.weight(1001, 1000000001L), BagRows.OUTSIDE);
    Check.due("2^32 + 100", x.weight(1001, 4294967396L), BagRows.OUTSIDE);
    Check.due("least", x.weight(1001, Long.MIN_VALUE), BagRows.OUTSIDE);
    Check.due("greatest", x.weight(1001, Long.MAX_VALUE), BagRows.OUTSIDE);
    Check.due("0", x.weight(1001, 0), 0);
    Check.due("10^9", x.weight(1001, 1000000000L), 0);
  }
}
