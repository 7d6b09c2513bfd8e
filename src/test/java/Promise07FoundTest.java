/** Promise 7: found confirms a thing that is on the list, or takes it in as an extra one. */
public final class Promise07FoundTest {
  public static void main(String[] args) {
    confirmed();
    listedButElsewhere();
    extra();
    extraToldOnce();
    extraTakenOutAndFoundAgain();
    extraThatLiesThere();
    whereverItLay();
    unknown();
    state();
    inAClosedOne();
    roomForThings();
    roomForExtras();
    anewAfterOpening();
    Check.end();
  }

  private static BagRows checked(int kind, int first, int last) {
    BagRows x = Check.withKinds(kind);
    Check.fill(x, 1001, first, last);
    reopen(x, 1001, kind);
    return x;
  }

  private static void reopen(BagRows x, int bag, int kind) {
    Check.holds("close(" + bag + ")", x.close(bag, 1, 0) >= 0);
    Check.due("open(" + bag + ")", x.open(bag, 1, 1, kind >= 2 ? 2 : -1), 1);
  }

  private static void confirmed() {
    BagRows x = checked(0, 1, 3);
    Check.due("found(1001, 2)", x.found(1001, 2), 1);
    Check.due("found(1001, 2) again", x.found(1001, 2), 1);
    Check.due("missing 0", x.differ(1001, 0, 1), 1);
    Check.due("missing 1", x.differ(1001, 1, 1), 3);
    Check.due("missing 2", x.differ(1001, 2, 1), -1);
    Check.due("no notes", x.tick(1000), 0);
  }

  private static void listedButElsewhere() {
    BagRows x = checked(0, 1, 2);
    Check.due("bag(0)", x.bag(0), 1002);
    Check.due("take(1)", x.take(1), 1001);
    Check.due("into(1002, 1)", x.into(1002, 1), 1);
    Check.due("found(1001, 1), on the list", x.found(1001, 1), 1);
    Check.due("inside(1)", x.inside(1), 1002);
    Check.due("missing", x.differ(1001, 0, 1), 2);
  }

  private static void extra() {
    BagRows x = checked(0, 1, 2);
    Check.due("found(1001, 9)", x.found(1001, 9), 0);
    Check.due("inside(9)", x.inside(9), 1001);
    Check.due("take(9)", x.take(9), 1001);
    Check.due("into(1001, 9)", x.into(1001, 9), 1);
    Check.due("close", x.close(1001, 1, 0), 3);
    Check.due("document(1001, 2)", x.document(1001, 2), 9);
  }

  private static void extraToldOnce() {
    BagRows x = checked(0, 1, 1);
    Check.due("found(1001, 9)", x.found(1001, 9), 0);
    Check.due("found(1001, 9) again", x.found(1001, 9), 0);
    Check.due("extra", x.differ(1001, 1, 1), 9);
    Check.due("no other", x.differ(1001, 2, 1), -1);
    Check.due("one note", x.tick(100), 1);
  }

  private static void extraTakenOutAndFoundAgain() {
    BagRows x = checked(0, 1, 1);
    Check.due("found(1001, 9)", x.found(1001, 9), 0);
    Check.due("take(9)", x.take(9), 1001);
    Check.due("found(1001, 9) again", x.found(1001, 9), 0);
    Check.due("inside(9)", x.inside(9), 0);
    Check.due("one note", x.tick(100), 1);
  }

  private static void extraThatLiesThere() {
    BagRows x = checked(0, 1, 1);
    Check.fill(x, 1001, 2, 12);
    Check.due("found(1001, 2), full but it lies there", x.found(1001, 2), 0);
    Check.due("found(1001, 13), full", x.found(1001, 13), BagRows.ROOM);
    Check.due("close", x.close(1001, 1, 0), 12);
    Check.due("it kept its turn", x.document(1001, 1), 2);
    Check.due("one note", x.tick(100), 1);
  }

  private static void whereverItLay() {
    BagRows x = Check.withKinds(2, 1, 0);
    Check.due("into(1003, 5)", x.into(1003, 5), 1);
    Check.due("into(1002, 1003)", x.into(1002, 1003), 1);
    Check.due("into(1002, 6)", x.into(1002, 6), 1);
    Check.due("close(1003)", x.close(1003, 3, 0), 1);
    Check.due("close(1002)", x.close(1002, 3, 0), 2);
    Check.due("move(1002, 4)", x.move(1002, 4), 4);
    reopen(x, 1001, 2);
    Check.due("found(1001, 5), in closed ones at another place", x.found(1001, 5), 0);
    Check.due("inside(5)", x.inside(5), 1001);
    Check.due("place(5)", x.place(5), 0);
    Check.due("found(1001, 1003)", x.found(1001, 1003), 0);
    Check.due("inside(1003)", x.inside(1003), 1001);
    Check.due("move(1002, 5): itself and 6", x.move(1002, 5), 2);
    Check.due("its list is as it was", x.document(1002, 0), 1003);
    Check.due("open(1002)", x.open(1002, 3, 1, -1), 1);
    Check.due("what got out is missing", x.differ(1002, 0, 1), 1003);
  }

  private static void unknown() {
    BagRows x = checked(3, 1, 1);
    int[] none = {0, -1, 1000, 1002, 1061, Integer.MIN_VALUE, Integer.MAX_VALUE};
    for (int number : none) {
      Check.due("found(1001, " + number + ")", x.found(1001, number), BagRows.UNKNOWN);
      Check.due("found(" + number + ", 1)", x.found(number, 1), BagRows.UNKNOWN);
    }
    Check.due("found(5, 1)", x.found(5, 1), BagRows.UNKNOWN);
  }

  private static void state() {
    BagRows x = Check.withKinds(1, 2, 1, 0);
    Check.due("never closed", x.found(1001, 1), BagRows.STATE);
    Check.due("into(1002, 1001)", x.into(1002, 1001), 1);
    Check.due("close(1001)", x.close(1001, 1, 0), 0);
    Check.due("closed", x.found(1001, 1), BagRows.STATE);
    Check.due("open(1001)", x.open(1001, 1, 1, -1), 1);
    Check.due("itself", x.found(1001, 1001), BagRows.STATE);
    Check.due("in which it lies", x.found(1001, 1002), BagRows.STATE);
    Check.due("of the same kind", x.found(1001, 1003), BagRows.STATE);
    Check.due("of a less kind", x.found(1001, 1004), 0);
    Check.due("close(1001)", x.close(1001, 1, 0), 1);
    Check.due("closed again", x.found(1001, 1004), BagRows.STATE);
  }

  private static void inAClosedOne() {
    BagRows x = Check.withKinds(0, 1);
    Check.due("into(1001, 1)", x.into(1001, 1), 1);
    reopen(x, 1001, 0);
    Check.due("into(1002, 1001)", x.into(1002, 1001), 1);
    Check.due("close(1002)", x.close(1002, 1, 0), 1);
    Check.due("found(1001, 1), open in a closed one", x.found(1001, 1), 1);
    Check.due("found(1001, 2), open in a closed one", x.found(1001, 2), 0);
  }

  private static void roomForThings() {
    BagRows x = checked(0, 1, 12);
    Check.due("on the list", x.found(1001, 12), 1);
    Check.due("full", x.found(1001, 13), BagRows.ROOM);
    Check.due("inside(13)", x.inside(13), 0);
    Check.due("no note", x.tick(100), 0);
    Check.due("take(3)", x.take(3), 1001);
    Check.due("room for one", x.found(1001, 13), 0);
    Check.due("full again", x.found(1001, 14), BagRows.ROOM);
    Check.due("the extra one again", x.found(1001, 13), 0);
  }

  private static void roomForExtras() {
    BagRows x = checked(1, 1, 0);
    for (int item = 1; item <= 12; item++) {
      Check.due("found(1001, " + item + ")", x.found(1001, item), 0);
      Check.due("take(" + item + ")", x.take(item), 1001);
    }
    Check.due("a thirteenth extra one", x.found(1001, 13), BagRows.ROOM);
    Check.due("inside(13)", x.inside(13), 0);
    Check.due("the twelfth again", x.found(1001, 12), 0);
    Check.due("notes", x.tick(100), 12);
    reopen(x, 1001, 1);
    Check.due("found(1001, 13) after opening anew", x.found(1001, 13), 0);
  }

  private static void anewAfterOpening() {
    BagRows x = checked(0, 1, 1);
    Check.due("found(1001, 1)", x.found(1001, 1), 1);
    Check.due("found(1001, 2)", x.found(1001, 2), 0);
    reopen(x, 1001, 0);
    Check.due("missing anew", x.differ(1001, 0, 1), 1);
    Check.due("missing anew, on the list now", x.differ(1001, 1, 1), 2);
    Check.due("no extra one", x.differ(1001, 2, 1), -1);
    Check.due("found(1001, 2), on the list now", x.found(1001, 2), 1);
  }
}
