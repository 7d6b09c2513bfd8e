/** Promise 12: move brings a closed receptacle, with all that lies in it, to a place. */
public final class Promise12MoveTest {
  public static void main(String[] args) {
    countsAllDepths();
    places();
    refusals();
    Check.end();
  }

  private static void countsAllDepths() {
    BagRows x = Check.withKinds(3, 2, 1, 0, 0);
    Check.fill(x, 1004, 1, 3);
    Check.fill(x, 1005, 4, 4);
    Check.due("into(1003, 1004)", x.into(1003, 1004), 1);
    Check.due("into(1002, 1003)", x.into(1002, 1003), 1);
    Check.due("into(1002, 1005)", x.into(1002, 1005), 1);
    Check.due("into(1001, 1002)", x.into(1001, 1002), 1);
    Check.fill(x, 1001, 5, 6);
    Check.due("close(1001)", x.close(1001, 1, 0), 3);
    Check.due("move(1001, 9)", x.move(1001, 9), 11);
    int[] things = {1, 3, 4, 5, 6, 1001, 1002, 1003, 1004, 1005};
    for (int thing : things) {
      Check.due("place(" + thing + ")", x.place(thing), 9);
    }
    Check.due("place(7)", x.place(7), 0);
    Check.due("inside(1)", x.inside(1), 1004);
  }

  private static void places() {
    BagRows x = Check.withKinds(0);
    Check.due("close", x.close(1001, 1, 0), 0);
    for (int to = 0; to <= 9; to++) {
      Check.due("move to " + to, x.move(1001, to), 1);
      Check.due("place", x.place(1001), to);
    }
    Check.due("move to where it is", x.move(1001, 9), 1);
    Check.due("move back to 0", x.move(1001, 0), 1);
    Check.due("place", x.place(1001), 0);
  }

  private static void refusals() {
    BagRows x = Check.withKinds(0, 1);
    int[] none = {0, 1, 999, 1000, 1003, 1061, Integer.MIN_VALUE, Integer.MAX_VALUE};
    for (int number : none) {
      Check.due("move(" + number + ", -1)", x.move(number, -1), BagRows.UNKNOWN);
    }
    Check.due("to -1", x.move(1001, -1), BagRows.OUTSIDE);
    Check.due("to 10", x.move(1001, 10), BagRows.OUTSIDE);
    Check.due("to least", x.move(1001, Integer.MIN_VALUE), BagRows.OUTSIDE);
    Check.due("open", x.move(1001, 1), BagRows.STATE);
    Check.due("close(1001)", x.close(1001, 1, 0), 0);
    Check.due("into(1002, 1001)", x.into(1002, 1001), 1);
    Check.due("closed, in an open one", x.move(1001, 1), BagRows.STATE);
    Check.due("close(1002)", x.close(1002, 1, 0), 1);
    Check.due("closed, in a closed one", x.move(1001, 1), BagRows.STATE);
    Check.due("to 10, in a closed one", x.move(1001, 10), BagRows.OUTSIDE);
    Check.due("place(1001)", x.place(1001), 0);
  }
}
