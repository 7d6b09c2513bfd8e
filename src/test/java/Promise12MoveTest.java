/** Promise 12: move brings a closed receptacle, with all that lies in it, to a place. */
public final class Promise12MoveTest {
  public static void main(String[] args) {
    atWhateverDepth();
    howMany();
    everyPlace();
    unknown();
    placeOutside();
    isOpen();
    liesInOne();
    Check.end();
  }

  private static void atWhateverDepth() {
    Check.sentence("goes to a place, and all that lies in it at whatever depth");
    BagRows x = Check.nested();
    Check.into(x, 1001, 1, 999);
    Check.into(x, 1003, 5);
    Check.close(x, 1004);
    Check.due("move(1004, 9)", x.move(1004, 9), 7);
    int[] moved = {1, 999, 5, 1001, 1002, 1003, 1004};
    for (int thing : moved) {
      Check.due("place(" + thing + ")", x.place(thing), 9);
    }
    Check.due("place(7), not in it", x.place(7), 0);
    Check.due("inside(1)", x.inside(1), 1001);
  }

  private static void howMany() {
    Check.sentence("how many things that are, with it");
    BagRows x = Check.withKinds(3, 2, 1, 0, 0);
    Check.close(x, 1005);
    Check.due("move(1005, 0), empty", x.move(1005, 0), 1);
    Check.fill(x, 1004, 1, 12);
    Check.into(x, 1003, 1004);
    Check.into(x, 1002, 1003, 1005);
    Check.into(x, 1001, 1002, 15, 16);
    Check.close(x, 1001);
    Check.due("move(1001, 2)", x.move(1001, 2), 19);
    Check.open(x, 1001, 3);
    Check.due("take(1002)", x.take(1002), 1001);
    Check.close(x, 1001);
    Check.due("move(1001, 2), without 1002", x.move(1001, 2), 3);
  }

  private static void everyPlace() {
    Check.sentence("a place is 0 .. 9");
    BagRows x = Check.withKinds(0);
    Check.close(x, 1001);
    for (int to = 0; to <= 9; to++) {
      Check.due("move(1001, " + to + ")", x.move(1001, to), 1);
      Check.due("place(1001)", x.place(1001), to);
    }
    Check.due("move(1001, 9), where it is", x.move(1001, 9), 1);
    Check.due("move(1001, 0)", x.move(1001, 0), 1);
    Check.due("place(1001)", x.place(1001), 0);
  }

  private static void unknown() {
    Check.sentence("move: UNKNOWN");
    BagRows x = Check.withKinds(0);
    Check.close(x, 1001);
    for (int number : Unknown.receptacles()) {
      Check.due("move(" + number + ", 1)", x.move(number, 1), BagRows.UNKNOWN);
    }
  }

  private static void placeOutside() {
    Check.sentence("OUTSIDE (a place is not 0 .. 9)");
    BagRows x = Check.withKinds(0);
    Check.close(x, 1001);
    int[] outside = {-1, 10, 1000, Integer.MIN_VALUE, Integer.MAX_VALUE};
    for (int to : outside) {
      Check.due("move(1001, " + to + ")", x.move(1001, to), BagRows.OUTSIDE);
      Check.due("place(1001)", x.place(1001), 0);
    }
  }

  private static void isOpen() {
    Check.sentence("A receptacle that is closed. STATE");
    BagRows x = Check.withKinds(0);
    Check.due("move(1001, 1), never closed", x.move(1001, 1), BagRows.STATE);
    Check.reopen(x, 1001, 0);
    Check.due("move(1001, 1), opened", x.move(1001, 1), BagRows.STATE);
    Check.due("place(1001)", x.place(1001), 0);
    Check.close(x, 1001);
    Check.due("move(1001, 1), closed", x.move(1001, 1), 1);
  }

  private static void liesInOne() {
    Check.sentence("and lies in none. STATE");
    BagRows x = Check.withKinds(0, 1);
    Check.close(x, 1001);
    Check.into(x, 1002, 1001);
    Check.due("move(1001, 1), in an open one", x.move(1001, 1), BagRows.STATE);
    Check.close(x, 1002);
    Check.due("move(1001, 1), in a closed one", x.move(1001, 1), BagRows.STATE);
    Check.due("place(1001)", x.place(1001), 0);
    Check.open(x, 1002, 1);
    Check.due("take(1001)", x.take(1001), 1002);
    Check.due("move(1001, 1), taken out", x.move(1001, 1), 1);
  }
}
