/** Promise 3: into lays a thing in a receptacle, behind what lies there. */
public final class Promise03IntoTest {
  public static void main(String[] args) {
    order();
    unknown();
    closedAtAnyDepth();
    liesInOne();
    kinds();
    closedThing();
    places();
    room();
    firstRefusalCounts();
    Check.end();
  }

  private static void order() {
    BagRows x = Check.withKinds(0);
    Check.due("into(1001, 30)", x.into(1001, 30), 1);
    Check.due("into(1001, 999)", x.into(1001, 999), 1);
    Check.due("into(1001, 1)", x.into(1001, 1), 1);
    Check.due("take(999)", x.take(999), 1001);
    Check.due("into(1001, 999)", x.into(1001, 999), 1);
    Check.due("close", x.close(1001, 1, 0), 3);
    Check.due("document(1001, 0)", x.document(1001, 0), 30);
    Check.due("document(1001, 1)", x.document(1001, 1), 1);
    Check.due("document(1001, 2)", x.document(1001, 2), 999);
  }

  private static void unknown() {
    BagRows x = Check.withKinds(1);
    int[] noThings = {0, -1, 1000, 1002, 1061, Integer.MIN_VALUE, Integer.MAX_VALUE};
    for (int number : noThings) {
      Check.due("into(1001, " + number + ")", x.into(1001, number), BagRows.UNKNOWN);
      Check.due("into(" + number + ", 1)", x.into(number, 1), BagRows.UNKNOWN);
    }
    Check.due("into(5, 1)", x.into(5, 1), BagRows.UNKNOWN);
    Check.due("into(999, 1)", x.into(999, 1), BagRows.UNKNOWN);
  }

  private static void closedAtAnyDepth() {
    BagRows x = Check.withKinds(0, 1, 2, 3);
    Check.due("into(1002, 1001)", x.into(1002, 1001), 1);
    Check.due("into(1003, 1002)", x.into(1003, 1002), 1);
    Check.due("into(1004, 1003)", x.into(1004, 1003), 1);
    Check.due("into(1001, 1)", x.into(1001, 1), 1);
    Check.due("close(1004)", x.close(1004, 1, 0), 1);
    Check.due("into(1004, 2)", x.into(1004, 2), BagRows.STATE);
    Check.due("into(1003, 2)", x.into(1003, 2), BagRows.STATE);
    Check.due("into(1002, 2)", x.into(1002, 2), BagRows.STATE);
    Check.due("into(1001, 2)", x.into(1001, 2), BagRows.STATE);
    Check.due("open(1004)", x.open(1004, 1, 0, 1), 1);
    Check.due("into(1001, 2)", x.into(1001, 2), 1);
  }

  private static void liesInOne() {
    BagRows x = Check.withKinds(0, 0, 1);
    Check.due("into(1001, 5)", x.into(1001, 5), 1);
    Check.due("into(1001, 5) again", x.into(1001, 5), BagRows.STATE);
    Check.due("into(1002, 5)", x.into(1002, 5), BagRows.STATE);
    Check.due("into(1003, 1001)", x.into(1003, 1001), 1);
    Check.due("into(1003, 1001) again", x.into(1003, 1001), BagRows.STATE);
    Check.due("inside(5)", x.inside(5), 1001);
  }

  private static void kinds() {
    for (int outer = 0; outer <= 3; outer++) {
      for (int inner = 0; inner <= 3; inner++) {
        BagRows x = Check.withKinds(outer, inner);
        Check.due("into, kind " + inner + " into " + outer, x.into(1001, 1002),
            inner < outer ? 1 : BagRows.STATE);
        Check.due("into itself", x.into(1001, 1001), BagRows.STATE);
      }
    }
  }

  private static void closedThing() {
    BagRows x = Check.withKinds(0, 1);
    Check.due("close(1001)", x.close(1001, 1, 0), 0);
    Check.due("into(1002, 1001), a closed one", x.into(1002, 1001), 1);
  }

  private static void places() {
    BagRows x = Check.withKinds(0, 1);
    Check.due("close(1001)", x.close(1001, 1, 0), 0);
    Check.due("move(1001, 3)", x.move(1001, 3), 1);
    Check.due("into(1002, 1001), at 3", x.into(1002, 1001), BagRows.STATE);
    Check.due("open(1001)", x.open(1001, 1, 1, -1), 1);
    Check.due("into(1001, 8), at 0", x.into(1001, 8), BagRows.STATE);
    Check.due("close(1002)", x.close(1002, 1, 0), 0);
    Check.due("move(1002, 3)", x.move(1002, 3), 1);
    Check.due("open(1002)", x.open(1002, 1, 1, -1), 1);
    Check.due("into(1002, 1001), both at 3", x.into(1002, 1001), 1);
    Check.due("place(1001)", x.place(1001), 3);
    Check.due("into(1001, 8), at 0, 1001 in 1002 at 3", x.into(1001, 8), BagRows.STATE);
  }

  private static void room() {
    BagRows x = Check.withKinds(0, 1);
    Check.fill(x, 1002, 1, 11);
    Check.due("into(1002, 1001)", x.into(1002, 1001), 1);
    Check.due("into(1002, 13)", x.into(1002, 13), BagRows.ROOM);
    Check.due("inside(13)", x.inside(13), 0);
    Check.due("into(1001, 13)", x.into(1001, 13), 1);
    Check.due("take(4)", x.take(4), 1002);
    Check.due("into(1002, 14)", x.into(1002, 14), 1);
    Check.due("into(1002, 4)", x.into(1002, 4), BagRows.ROOM);
  }

  private static void firstRefusalCounts() {
    BagRows x = Check.withKinds(0);
    Check.fill(x, 1001, 1, 12);
    Check.due("into(1001, 1000), full", x.into(1001, 1000), BagRows.UNKNOWN);
    Check.due("into(1001, 1), full", x.into(1001, 1), BagRows.STATE);
    Check.due("close", x.close(1001, 1, 0), 12);
    Check.due("into(1001, 13), closed and full", x.into(1001, 13), BagRows.STATE);
  }
}
