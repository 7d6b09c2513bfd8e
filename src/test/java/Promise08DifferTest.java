/** Promise 8: differ tells the differences since the latest opening, sort by sort. */
public final class Promise08DifferTest {
  private static final int GREATEST = 1000000000;

  public static void main(String[] args) {
    sortAndDetail();
    asManyAsCanBe();
    noSuchDifference();
    noneAtAll();
    unknown();
    whatOutside();
    neverOpened();
    closed();
    openInAClosedOne();
    Check.end();
  }

  private static void sortAndDetail() {
    Check.sentence("what = 0 its sort; 1 for sort 0 the seal that was read, 1 what was measured, "
        + "2 and 3 the thing");
    BagRows x = Check.withKinds(1, 0);
    Check.into(x, 1001, 50, 1002, 1);
    Check.due("close", x.close(1001, 1, 0), 3);
    Check.due("weight 10^9", x.weight(1001, GREATEST), 0);
    Check.due("open", x.open(1001, GREATEST, 1, -1), -1);
    Check.due("weight 0", x.weight(1001, 0), 0);
    Check.due("found(1001, 999)", x.found(1001, 999), 0);
    Check.due("found(1001, 2)", x.found(1001, 2), 0);
    Check.differences(x, 1001, 0, GREATEST, 1, GREATEST, 1, 0, 2, 50, 2, 1002, 2, 1, 3, 999, 3, 2);
    Check.due("found(1001, 1002)", x.found(1001, 1002), 1);
    Check.differences(x, 1001, 0, GREATEST, 1, GREATEST, 1, 0, 2, 50, 2, 1, 3, 999, 3, 2);
    Check.close(x, 1001);
    Check.due("open, the least other seal", x.open(1001, 2, 1, -1), -1);
    Check.due("the seal that was read", x.differ(1001, 0, 1), 2);
  }

  /** One of the seal, six of weighings, twelve missing, twelve extra. */
  private static void asManyAsCanBe() {
    Check.sentence("DIFFERENCES of a receptacle, since it was opened latest, in this order");
    BagRows x = Check.withKinds(0);
    Check.fill(x, 1001, 1, 12);
    Check.close(x, 1001);
    Check.due("open", x.open(1001, 3, 1, -1), -1);
    int[] all = new int[2 * 31];
    all[1] = 3;
    for (int i = 0; i < 7; i++) {
      Check.due("weight " + i, x.weight(1001, i), 0);
      put(all, 1 + i, 1, i);
    }
    for (int i = 0; i < 12; i++) {
      Check.due("take", x.take(1 + i), 1001);
      Check.due("found", x.found(1001, 100 - i), 0);
      put(all, 7 + i, 2, 1 + i);
      put(all, 19 + i, 3, 100 - i);
    }
    Check.differences(x, 1001, all);
  }

  private static void put(int[] all, int i, int sort, int detail) {
    all[2 * i] = sort;
    all[2 * i + 1] = detail;
  }

  private static void noSuchDifference() {
    Check.sentence("-1 when there is no such difference");
    BagRows x = Check.withKinds(0);
    Check.into(x, 1001, 1);
    Check.close(x, 1001);
    Check.due("open", x.open(1001, 3, 1, -1), -1);
    Check.due("weight", x.weight(1001, 1), 0);
    Check.due("found(1001, 2)", x.found(1001, 2), 0);
    int[] none = {-1, -2, 4, 5, 31, Integer.MIN_VALUE, Integer.MIN_VALUE + 1, Integer.MAX_VALUE};
    for (int i : none) {
      Check.due("differ(1001, " + i + ", 0)", x.differ(1001, i, 0), -1);
      Check.due("differ(1001, " + i + ", 1)", x.differ(1001, i, 1), -1);
    }
    Check.differences(x, 1001, 0, 3, 1, 1, 2, 1, 3, 2);
  }

  private static void noneAtAll() {
    Check.sentence("-1 when there is no such difference, as all is as it should be");
    BagRows x = Check.withKinds(0, 2);
    Check.into(x, 1001, 1);
    Check.reopen(x, 1001, 0);
    Check.due("found(1001, 1)", x.found(1001, 1), 1);
    Check.reopen(x, 1002, 2);
    int[] none = {-1, 0, 1, Integer.MIN_VALUE, Integer.MAX_VALUE};
    for (int i : none) {
      Check.due("differ(1001, " + i + ", 1)", x.differ(1001, i, 1), -1);
      Check.due("differ(1002, " + i + ", 0), empty", x.differ(1002, i, 0), -1);
    }
  }

  private static void unknown() {
    Check.sentence("differ: UNKNOWN");
    BagRows x = Check.withKinds(0);
    Check.reopen(x, 1001, 0);
    for (int number : Unknown.receptacles()) {
      Check.due("differ(" + number + ", 0, 0)", x.differ(number, 0, 0), BagRows.UNKNOWN);
    }
  }

  private static void whatOutside() {
    Check.sentence("OUTSIDE (what)");
    BagRows x = Check.withKinds(0);
    Check.into(x, 1001, 7);
    Check.reopen(x, 1001, 0);
    int[] outside = {-1, 2, 3, Integer.MIN_VALUE, Integer.MAX_VALUE};
    for (int what : outside) {
      Check.due("differ(1001, 0, " + what + ")", x.differ(1001, 0, what), BagRows.OUTSIDE);
      Check.due("differ(1001, 9, " + what + ")", x.differ(1001, 9, what), BagRows.OUTSIDE);
    }
    Check.differences(x, 1001, 2, 7);
  }

  private static void neverOpened() {
    Check.sentence("a receptacle that was opened. STATE (it is not so)");
    BagRows x = Check.withKinds(0);
    Check.due("weight", x.weight(1001, 1), 0);
    Check.due("differ(1001, 0, 0)", x.differ(1001, 0, 0), BagRows.STATE);
    Check.due("differ(1001, 9, 1)", x.differ(1001, 9, 1), BagRows.STATE);
  }

  private static void closed() {
    Check.sentence("and is open. STATE (it is not so)");
    BagRows x = Check.withKinds(0);
    for (int i = 0; i < 2; i++) {
      Check.close(x, 1001);
      Check.due("differ(1001, 0, 0), closed", x.differ(1001, 0, 0), BagRows.STATE);
      Check.due("differ(1001, -1, 1), closed", x.differ(1001, -1, 1), BagRows.STATE);
      Check.open(x, 1001, 0);
      Check.due("differ(1001, 0, 0), open", x.differ(1001, 0, 0), -1);
    }
  }

  private static void openInAClosedOne() {
    Check.sentence("Of difference i (0 the first) of a receptacle that was opened and is open");
    BagRows x = Check.withKinds(0, 1);
    Check.into(x, 1001, 7);
    Check.reopen(x, 1001, 0);
    Check.into(x, 1002, 1001);
    Check.close(x, 1002);
    Check.differences(x, 1001, 2, 7);
  }
}
