/** Promise 13: place tells where a thing is. */
public final class Promise13PlaceTest {
  public static void main(String[] args) {
    takenOutStaysThere();
    foundGoesWithIt();
    whatLiesInATakenOne();
    unknown();
    Check.end();
  }

  private static void takenOutStaysThere() {
    BagRows x = Check.withKinds(0, 1);
    Check.fill(x, 1001, 1, 2);
    Check.due("into(1002, 1001)", x.into(1002, 1001), 1);
    Check.due("close(1002)", x.close(1002, 1, 0), 1);
    Check.due("move(1002, 6)", x.move(1002, 6), 4);
    Check.due("open(1002)", x.open(1002, 1, 1, -1), 1);
    Check.due("take(1)", x.take(1), 1001);
    Check.due("place(1)", x.place(1), 6);
    Check.due("close(1002)", x.close(1002, 1, 0), 1);
    Check.due("move(1002, 7)", x.move(1002, 7), 3);
    Check.due("place(1), where it was taken out", x.place(1), 6);
    Check.due("place(2)", x.place(2), 7);
    Check.due("place(3), never in one", x.place(3), 0);
  }

  private static void foundGoesWithIt() {
    BagRows x = Check.withKinds(0, 0);
    Check.due("into(1001, 1)", x.into(1001, 1), 1);
    Check.due("close(1001)", x.close(1001, 1, 0), 1);
    Check.due("move(1001, 2)", x.move(1001, 2), 2);
    Check.due("close(1002)", x.close(1002, 1, 0), 0);
    Check.due("move(1002, 5)", x.move(1002, 5), 1);
    Check.due("open(1002)", x.open(1002, 1, 1, -1), 1);
    Check.due("found(1002, 1)", x.found(1002, 1), 0);
    Check.due("place(1)", x.place(1), 5);
    Check.due("take(1)", x.take(1), 1002);
    Check.due("place(1), taken out", x.place(1), 5);
    Check.due("place(1001)", x.place(1001), 2);
  }

  private static void whatLiesInATakenOne() {
    BagRows x = Check.withKinds(0, 1);
    Check.due("into(1001, 1)", x.into(1001, 1), 1);
    Check.due("into(1002, 1001)", x.into(1002, 1001), 1);
    Check.due("close(1002)", x.close(1002, 1, 0), 1);
    Check.due("move(1002, 3)", x.move(1002, 3), 3);
    Check.due("open(1002)", x.open(1002, 1, 1, -1), 1);
    Check.due("take(1001)", x.take(1001), 1002);
    Check.due("place(1001)", x.place(1001), 3);
    Check.due("place(1)", x.place(1), 3);
    Check.due("close(1001)", x.close(1001, 1, 0), 1);
    Check.due("move(1001, 4)", x.move(1001, 4), 2);
    Check.due("place(1)", x.place(1), 4);
    Check.due("place(1002)", x.place(1002), 3);
  }

  private static void unknown() {
    BagRows x = Check.withKinds(0);
    int[] noThings = {0, -1, 1000, 1002, 1060, 1061, Integer.MIN_VALUE, Integer.MAX_VALUE};
    for (int number : noThings) {
      Check.due("place(" + number + ")", x.place(number), BagRows.UNKNOWN);
    }
  }
}
