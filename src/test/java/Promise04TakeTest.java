/** Promise 4: take takes a thing out of the open receptacle in which it lies. */
public final class Promise04TakeTest {
  public static void main(String[] args) {
    ordinary();
    unknown();
    state();
    closedThing();
    Check.end();
  }

  private static void ordinary() {
    BagRows x = Check.withKinds(0, 2);
    Check.fill(x, 1001, 1, 3);
    Check.due("into(1002, 1001)", x.into(1002, 1001), 1);
    Check.due("take(2)", x.take(2), 1001);
    Check.due("inside(2)", x.inside(2), 0);
    Check.due("take(2) again", x.take(2), BagRows.STATE);
    Check.due("take(1001)", x.take(1001), 1002);
    Check.due("inside(1001)", x.inside(1001), 0);
    Check.due("inside(1), in what was taken", x.inside(1), 1001);
    Check.due("close(1001)", x.close(1001, 1, 0), 2);
    Check.due("document(1001, 0)", x.document(1001, 0), 1);
    Check.due("document(1001, 1)", x.document(1001, 1), 3);
    Check.due("close(1002)", x.close(1002, 1, 0), 0);
  }

  private static void unknown() {
    BagRows x = Check.withKinds(0);
    int[] noThings = {0, -5, 1000, 1002, 1061, Integer.MIN_VALUE, Integer.MAX_VALUE};
    for (int number : noThings) {
      Check.due("take(" + number + ")", x.take(number), BagRows.UNKNOWN);
    }
  }

  private static void state() {
    BagRows x = Check.withKinds(0, 1, 3);
    Check.due("take(1), in none", x.take(1), BagRows.STATE);
    Check.due("take(1001), in none", x.take(1001), BagRows.STATE);
    Check.due("into(1001, 1)", x.into(1001, 1), 1);
    Check.due("into(1002, 1001)", x.into(1002, 1001), 1);
    Check.due("into(1003, 1002)", x.into(1003, 1002), 1);
    Check.due("close(1003)", x.close(1003, 1, 0), 1);
    Check.due("take(1), two below the closed one", x.take(1), BagRows.STATE);
    Check.due("take(1001)", x.take(1001), BagRows.STATE);
    Check.due("take(1002)", x.take(1002), BagRows.STATE);
    Check.due("take(1003), closed, in none", x.take(1003), BagRows.STATE);
    Check.due("inside(1)", x.inside(1), 1001);
    Check.due("open(1003)", x.open(1003, 1, 0, 1), 1);
    Check.due("take(1)", x.take(1), 1001);
  }

  private static void closedThing() {
    BagRows x = Check.withKinds(0, 1);
    Check.due("into(1001, 1)", x.into(1001, 1), 1);
    Check.due("into(1002, 1001)", x.into(1002, 1001), 1);
    Check.due("close(1001)", x.close(1001, 1, 0), 1);
    Check.due("take(1), of a closed one", x.take(1), BagRows.STATE);
    Check.due("take(1001), a closed one out of an open one", x.take(1001), 1002);
  }
}
