/** Promise 8: differ tells the differences since the latest opening, sort by sort. */
public final class Promise08DifferTest {
  public static void main(String[] args) {
    allSorts();
    none();
    sixWeighings();
    sinceOpenedAndClosed();
    refusals();
    Check.end();
  }

  private static void difference(BagRows x, int i, int sort, int detail) {
    Check.due("differ(1001, " + i + ", 0)", x.differ(1001, i, 0), sort);
    Check.due("differ(1001, " + i + ", 1)", x.differ(1001, i, 1), detail);
  }

  private static void allSorts() {
    BagRows x = Check.withKinds(1, 0);
    Check.due("into(1001, 50)", x.into(1001, 50), 1);
    Check.due("into(1001, 1002)", x.into(1001, 1002), 1);
    Check.due("into(1001, 49)", x.into(1001, 49), 1);
    Check.due("close", x.close(1001, 10, 0), 3);
    Check.due("weight 1000000000", x.weight(1001, 1000000000L), 0);
    Check.due("open", x.open(1001, 1000000000L, 1, -1), -1);
    Check.due("weight 0", x.weight(1001, 0), 0);
    Check.due("found(1001, 300)", x.found(1001, 300), 0);
    Check.due("found(1001, 200)", x.found(1001, 200), 0);
    difference(x, 0, 0, 1000000000);
    difference(x, 1, 1, 1000000000);
    difference(x, 2, 1, 0);
    difference(x, 3, 2, 50);
    difference(x, 4, 2, 1002);
    difference(x, 5, 2, 49);
    difference(x, 6, 3, 300);
    difference(x, 7, 3, 200);
    difference(x, 8, -1, -1);
    Check.due("found(1001, 1002)", x.found(1001, 1002), 1);
    difference(x, 4, 2, 49);
    difference(x, 5, 3, 300);
    difference(x, 7, -1, -1);
  }

  private static void none() {
    BagRows x = Check.withKinds(2);
    Check.due("close", x.close(1001, 10, 0), 0);
    Check.due("open", x.open(1001, 10, 0, 1), 1);
    difference(x, 0, -1, -1);
    difference(x, 1, -1, -1);
    difference(x, -1, -1, -1);
    difference(x, Integer.MIN_VALUE, -1, -1);
    difference(x, Integer.MAX_VALUE, -1, -1);
    Check.due("weight", x.weight(1001, 1), 0);
    difference(x, 0, 1, 1);
    difference(x, -1, -1, -1);
    difference(x, Integer.MIN_VALUE, -1, -1);
    difference(x, Integer.MAX_VALUE, -1, -1);
  }

  private static void sixWeighings() {
    BagRows x = Check.withKinds(0);
    Check.due("weight before it was closed", x.weight(1001, 77), 0);
    Check.due("close", x.close(1001, 10, 0), 0);
    for (int measured = 1; measured <= 4; measured++) {
      Check.due("weight " + measured, x.weight(1001, measured), 0);
    }
    Check.due("weight 100, right", x.weight(1001, 100), 1);
    Check.due("open", x.open(1001, 10, 1, -1), 1);
    for (int measured = 5; measured <= 8; measured++) {
      Check.due("weight " + measured, x.weight(1001, measured), 0);
    }
    for (int i = 0; i < 6; i++) {
      difference(x, i, 1, i + 1);
    }
    difference(x, 6, -1, -1);
    Check.due("nine notes", x.tick(100), 9);
  }

  private static void sinceOpenedAndClosed() {
    BagRows x = Check.withKinds(0);
    Check.due("close", x.close(1001, 10, 0), 0);
    Check.due("open", x.open(1001, 11, 1, -1), -1);
    Check.due("weight", x.weight(1001, 1), 0);
    Check.due("found(1001, 5)", x.found(1001, 5), 0);
    difference(x, 2, 3, 5);
    Check.due("close", x.close(1001, 10, 0), 1);
    Check.due("open", x.open(1001, 10, 1, -1), 1);
    difference(x, 0, 2, 5);
    difference(x, 1, -1, -1);
  }

  private static void refusals() {
    BagRows x = Check.withKinds(0, 1);
    int[] none = {0, 1, 999, 1000, 1003, 1061, Integer.MIN_VALUE, Integer.MAX_VALUE};
    for (int number : none) {
      Check.due("differ(" + number + ", 0, 9)", x.differ(number, 0, 9), BagRows.UNKNOWN);
    }
    Check.due("never closed", x.differ(1001, 0, 0), BagRows.STATE);
    Check.due("never closed, what 2", x.differ(1001, 0, 2), BagRows.OUTSIDE);
    Check.due("never closed, what -1", x.differ(1001, 0, -1), BagRows.OUTSIDE);
    Check.due("close", x.close(1001, 10, 0), 0);
    Check.due("closed", x.differ(1001, 0, 0), BagRows.STATE);
    Check.due("closed, what 2", x.differ(1001, 0, 2), BagRows.OUTSIDE);
    Check.due("open", x.open(1001, 10, 1, -1), 1);
    Check.due("what 2", x.differ(1001, 0, 2), BagRows.OUTSIDE);
    Check.due("what -1", x.differ(1001, 0, -1), BagRows.OUTSIDE);
    Check.due("into(1002, 1001)", x.into(1002, 1001), 1);
    Check.due("close(1002)", x.close(1002, 10, 0), 1);
    Check.due("open in a closed one", x.differ(1001, 0, 0), -1);
  }
}
