/** Promise 7: found confirms a thing that is on the list, or takes it in as an extra one. */
public final class Promise07FoundTest {
  public static void main(String[] args) {
    onTheList();
    listedButElsewhere();
    extra();
    extraThatLiesThere();
    extraInAnInnerOne();
    toldOnce();
    toldOnceThoughTakenOut();
    toldAnewAfterOpening();
    unknown();
    neverClosed();
    closed();
    openInAClosedOne();
    itself();
    inWhichItLies();
    kinds();
    roomForThings();
    roomForExtras();
    Check.end();
  }

  /** A receptacle that was closed and opened with items first .. last on its list. */
  private static BagRows checked(int kind, int first, int last) {
    BagRows x = Check.withKinds(kind);
    Check.fill(x, 1001, first, last);
    Check.reopen(x, 1001, kind);
    return x;
  }

  private static void onTheList() {
    Check.sentence("1 if it is on its list");
    BagRows x = checked(2, 1, 11);
    Check.due("bag(1)", x.bag(1), 1002);
    Check.into(x, 1001, 1002);
    Check.reopen(x, 1001, 2);
    int[] listed = {1, 11, 1002, 6};
    for (int thing : listed) {
      Check.due("found(1001, " + thing + ")", x.found(1001, thing), 1);
      Check.due("found(1001, " + thing + ") again", x.found(1001, thing), 1);
    }
    Check.differences(x, 1001, 2, 2, 2, 3, 2, 4, 2, 5, 2, 7, 2, 8, 2, 9, 2, 10);
    Check.due("tick(1000), no notes", x.tick(1000), 0);
  }

  private static void listedButElsewhere() {
    Check.sentence("a thing that is FOUND in it is on the list (that is confirmed)");
    BagRows x = checked(0, 1, 2);
    Check.due("bag(0)", x.bag(0), 1002);
    Check.due("take(1)", x.take(1), 1001);
    Check.into(x, 1002, 1);
    Check.due("found(1001, 1)", x.found(1001, 1), 1);
    Check.due("inside(1)", x.inside(1), 1002);
    Check.differences(x, 1001, 2, 2);
  }

  private static void extra() {
    Check.sentence("0 if it is extra");
    BagRows x = checked(1, 1, 2);
    Check.due("bag(0)", x.bag(0), 1002);
    Check.due("found(1001, 9)", x.found(1001, 9), 0);
    Check.due("found(1001, 1002)", x.found(1001, 1002), 0);
    Check.due("inside(9)", x.inside(9), 1001);
    Check.due("inside(1002)", x.inside(1002), 1001);
    Check.due("tick(100), two notes", x.tick(100), 2);
    Check.holdsInOrder(x, 1001, 1, 2, 9, 1002);
    BagRows empty = checked(0, 1, 0);
    Check.due("found(1001, 999), the list is empty", empty.found(1001, 999), 0);
    Check.differences(empty, 1001, 3, 999);
  }

  private static void extraThatLiesThere() {
    Check.sentence("a thing that lies in it and is not on the list is an extra one");
    BagRows x = checked(0, 1, 1);
    Check.fill(x, 1001, 2, 12);
    Check.due("found(1001, 2), full but it lies there", x.found(1001, 2), 0);
    Check.differences(x, 1001, 2, 1, 3, 2);
    Check.due("tick(100), one note", x.tick(100), 1);
    Check.holdsInOrder(x, 1001, 1, 2, 3, 4, 5, 6, 7, 8, 9, 10, 11, 12);
  }

  private static void extraInAnInnerOne() {
    Check.sentence("which lies in it from then on, wherever it lay");
    BagRows x = Check.withKinds(1, 0);
    Check.into(x, 1002, 5, 6);
    Check.into(x, 1001, 1002);
    Check.reopen(x, 1001, 1);
    Check.due("found(1001, 5), it lies in 1002 in 1001", x.found(1001, 5), 0);
    Check.due("inside(5)", x.inside(5), 1001);
    Check.holdsInOrder(x, 1002, 6);
    Check.holdsInOrder(x, 1001, 1002, 5);
  }

  private static void toldOnce() {
    Check.sentence("told once; found again it answers the same");
    BagRows x = checked(0, 1, 1);
    for (int i = 0; i < 3; i++) {
      Check.due("found(1001, 9)", x.found(1001, 9), 0);
    }
    Check.differences(x, 1001, 2, 1, 3, 9);
    Check.due("tick(100), one note", x.tick(100), 1);
    Check.holdsInOrder(x, 1001, 1, 9);
  }

  private static void toldOnceThoughTakenOut() {
    Check.sentence("told once; found again it answers the same");
    BagRows x = checked(0, 1, 1);
    Check.due("found(1001, 9)", x.found(1001, 9), 0);
    Check.due("take(9)", x.take(9), 1001);
    Check.due("found(1001, 9) again", x.found(1001, 9), 0);
    Check.due("inside(9)", x.inside(9), 0);
    Check.differences(x, 1001, 2, 1, 3, 9);
    Check.due("tick(100), one note", x.tick(100), 1);
  }

  private static void toldAnewAfterOpening() {
    Check.sentence("DIFFERENCES of a receptacle, since it was opened latest");
    BagRows x = checked(0, 1, 1);
    Check.due("found(1001, 1)", x.found(1001, 1), 1);
    Check.due("found(1001, 2)", x.found(1001, 2), 0);
    Check.due("take(2)", x.take(2), 1001);
    Check.reopen(x, 1001, 0);
    Check.differences(x, 1001, 2, 1);
    Check.due("found(1001, 2) anew", x.found(1001, 2), 0);
    Check.due("inside(2)", x.inside(2), 1001);
    Check.due("tick(100), two notes", x.tick(100), 2);
    Check.reopen(x, 1001, 0);
    Check.due("found(1001, 2), now on the list", x.found(1001, 2), 1);
    Check.differences(x, 1001, 2, 1);
  }

  private static void unknown() {
    Check.sentence("found: UNKNOWN");
    BagRows x = checked(3, 1, 1);
    for (int number : Unknown.things()) {
      Check.due("found(1001, " + number + ")", x.found(1001, number), BagRows.UNKNOWN);
    }
    for (int number : Unknown.receptacles()) {
      Check.due("found(" + number + ", 1)", x.found(number, 1), BagRows.UNKNOWN);
    }
  }

  private static void neverClosed() {
    Check.sentence("a receptacle that was closed before. STATE (it is not so");
    BagRows x = Check.withKinds(0);
    Check.into(x, 1001, 1);
    Check.due("found(1001, 1)", x.found(1001, 1), BagRows.STATE);
    Check.due("found(1001, 2)", x.found(1001, 2), BagRows.STATE);
    Check.due("inside(2)", x.inside(2), 0);
  }

  private static void closed() {
    Check.sentence("an open receptacle. STATE (it is not so");
    BagRows x = Check.withKinds(0);
    Check.into(x, 1001, 1);
    for (int i = 0; i < 2; i++) {
      Check.close(x, 1001);
      Check.due("found(1001, 1), on the list", x.found(1001, 1), BagRows.STATE);
      Check.due("found(1001, 2), not on it", x.found(1001, 2), BagRows.STATE);
      Check.open(x, 1001, 0);
    }
    Check.due("found(1001, 1), open", x.found(1001, 1), 1);
  }

  private static void openInAClosedOne() {
    Check.sentence("A thing is FOUND in an open receptacle that was closed before");
    BagRows x = checked(0, 1, 1);
    Check.due("bag(1)", x.bag(1), 1002);
    Check.into(x, 1002, 1001);
    Check.close(x, 1002);
    Check.due("found(1001, 1), open in a closed one", x.found(1001, 1), 1);
    Check.due("found(1001, 2), open in a closed one", x.found(1001, 2), 0);
  }

  private static void itself() {
    Check.sentence("the thing is it");
    for (int kind = 0; kind <= 3; kind++) {
      BagRows x = checked(kind, 1, 1);
      Check.due("found(1001, 1001)", x.found(1001, 1001), BagRows.STATE);
      Check.due("inside(1001)", x.inside(1001), 0);
    }
  }

  private static void inWhichItLies() {
    Check.sentence("or a receptacle in which it lies");
    BagRows x = Check.nested();
    Check.reopen(x, 1001, 0);
    for (int outer = 1002; outer <= 1004; outer++) {
      Check.due("found(1001, " + outer + ")", x.found(1001, outer), BagRows.STATE);
    }
    Check.due("inside(1004)", x.inside(1004), 0);
  }

  private static void kinds() {
    Check.sentence("or of a kind that is not less");
    for (int outer = 0; outer <= 3; outer++) {
      for (int inner = 0; inner <= 3; inner++) {
        BagRows x = checked(outer, 1, 1);
        Check.due("bag(" + inner + ")", x.bag(inner), 1002);
        Check.due("found, kind " + inner + " in " + outer, x.found(1001, 1002),
            inner < outer ? 0 : BagRows.STATE);
        Check.due("inside(1002)", x.inside(1002), inner < outer ? 1001 : 0);
      }
    }
  }

  private static void roomForThings() {
    Check.sentence("ROOM (an extra one for which there is none");
    BagRows x = checked(0, 1, 11);
    Check.due("found(1001, 12), room for one", x.found(1001, 12), 0);
    Check.due("found(1001, 13), full", x.found(1001, 13), BagRows.ROOM);
    Check.due("inside(13)", x.inside(13), 0);
    Check.due("found(1001, 11), full but on the list", x.found(1001, 11), 1);
    Check.due("found(1001, 12), full but extra already", x.found(1001, 12), 0);
    Check.due("take(1)", x.take(1), 1001);
    Check.due("found(1001, 13), room for one", x.found(1001, 13), 0);
    Check.due("tick(100), two notes", x.tick(100), 2);
  }

  private static void roomForExtras() {
    Check.sentence("or twelve were extra)");
    BagRows x = checked(1, 90, 90);
    for (int item = 1; item <= 12; item++) {
      Check.due("found(1001, " + item + ")", x.found(1001, item), 0);
      Check.due("take(" + item + ")", x.take(item), 1001);
    }
    Check.due("found(1001, 13), a thirteenth", x.found(1001, 13), BagRows.ROOM);
    Check.due("inside(13)", x.inside(13), 0);
    Check.into(x, 1001, 14);
    Check.due("found(1001, 14), a thirteenth that lies there", x.found(1001, 14), BagRows.ROOM);
    Check.due("found(1001, 12), the twelfth again", x.found(1001, 12), 0);
    Check.due("found(1001, 90), on the list", x.found(1001, 90), 1);
    Check.due("tick(100), twelve notes", x.tick(100), 12);
    Check.reopen(x, 1001, 1);
    Check.due("found(1001, 13), opened anew", x.found(1001, 13), 0);
  }
}
