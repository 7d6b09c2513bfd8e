/** Promise 5: close seals a receptacle and answers how many things are on its list. */
public final class Promise05CloseTest {
  public static void main(String[] args) {
    counts();
    unknown();
    outside();
    state();
    Check.end();
  }

  private static void counts() {
    for (int many = 0; many <= 12; many++) {
      BagRows x = Check.withKinds(3);
      Check.fill(x, 1001, 1, many);
      Check.due("close of " + many, x.close(1001, 5, 5), many);
    }
    BagRows x = Check.withKinds(0, 1);
    Check.fill(x, 1001, 1, 3);
    Check.due("into(1002, 1001)", x.into(1002, 1001), 1);
    Check.due("close(1002), one thing with three in it", x.close(1002, 5, 5), 1);
  }

  private static void unknown() {
    BagRows x = Check.withKinds(0);
    int[] none = {0, 1, 999, 1000, 1002, 1061, -1001, Integer.MIN_VALUE, Integer.MAX_VALUE};
    for (int number : none) {
      Check.due("close(" + number + ")", x.close(number, 0, -1), BagRows.UNKNOWN);
    }
  }

  private static void outside() {
    BagRows x = Check.withKinds(0, 0);
    Check.due("seal 0", x.close(1001, 0, 0), BagRows.OUTSIDE);
    Check.due("seal -1", x.close(1001, -1, 0), BagRows.OUTSIDE);
    Check.due("seal 10^9 + 1", x.close(1001, 1000000001L, 0), BagRows.OUTSIDE);
    Check.due("seal 2^32 + 1", x.close(1001, 4294967297L, 0), BagRows.OUTSIDE);
    Check.due("seal least", x.close(1001, Long.MIN_VALUE, 0), BagRows.OUTSIDE);
    Check.due("person -1", x.close(1001, 1, -1), BagRows.OUTSIDE);
    Check.due("person 50", x.close(1001, 1, 50), BagRows.OUTSIDE);
    Check.due("seal 10^9, person 49", x.close(1001, 1000000000L, 49), 0);
    Check.due("seal 1, person 0", x.close(1002, 1, 0), 0);
    Check.due("seal 0 of a closed one", x.close(1002, 0, 0), BagRows.OUTSIDE);
    Check.due("person 50 of a closed one", x.close(1002, 1, 50), BagRows.OUTSIDE);
  }

  private static void state() {
    BagRows x = Check.withKinds(0, 1, 2);
    Check.due("into(1002, 1001)", x.into(1002, 1001), 1);
    Check.due("into(1003, 1002)", x.into(1003, 1002), 1);
    Check.due("close(1003)", x.close(1003, 1, 0), 1);
    Check.due("close(1003) again", x.close(1003, 1, 0), BagRows.STATE);
    Check.due("close(1002), in a closed one", x.close(1002, 1, 0), BagRows.STATE);
    Check.due("close(1001), two below", x.close(1001, 1, 0), BagRows.STATE);
    Check.due("open(1003)", x.open(1003, 1, 0, 1), 1);
    Check.due("close(1001)", x.close(1001, 1, 0), 0);
    Check.due("close(1002)", x.close(1002, 1, 0), 1);
    Check.due("close(1003)", x.close(1003, 1, 0), 1);
  }
}
