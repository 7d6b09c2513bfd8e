/** Promise 13: place tells where a thing is. */
public final class Promise13PlaceTest {
  public static void main(String[] args) {
    withWhatItLiesIn();
    takenOut();
    whatLiesInATakenOne();
    gotOut();
    unknown();
    Check.end();
  }

  private static void withWhatItLiesIn() {
    Check.sentence("The place of a thing");
    BagRows x = Check.nested();
    Check.into(x, 1001, 1);
    Check.bring(x, 1004, 3, 9);
    int[] things = {1, 1001, 1002, 1003, 1004};
    for (int thing : things) {
      Check.due("place(" + thing + ")", x.place(thing), 9);
    }
    Check.due("place(2)", x.place(2), 0);
    Check.due("place(999)", x.place(999), 0);
  }

  private static void takenOut() {
    Check.sentence("what was taken out .. is where that was");
    BagRows x = Check.withKinds(0, 1);
    Check.fill(x, 1001, 1, 2);
    Check.into(x, 1002, 1001);
    Check.bring(x, 1002, 1, 6);
    Check.due("take(1)", x.take(1), 1001);
    Check.due("place(1)", x.place(1), 6);
    Check.bring(x, 1002, 1, 7);
    Check.due("place(1), where it was taken out", x.place(1), 6);
    Check.due("place(2)", x.place(2), 7);
    Check.due("place(3), never in one", x.place(3), 0);
    Check.due("take(2)", x.take(2), 1001);
    Check.due("into(1001, 1), at 6 into one at 7", x.into(1001, 1), BagRows.STATE);
    Check.due("into(1001, 2), at 7 into one at 7", x.into(1001, 2), 1);
  }

  private static void whatLiesInATakenOne() {
    Check.sentence("what was taken out .. is where that was, with what lies in it");
    BagRows x = Check.withKinds(0, 1);
    Check.into(x, 1001, 1);
    Check.into(x, 1002, 1001);
    Check.bring(x, 1002, 1, 3);
    Check.due("take(1001)", x.take(1001), 1002);
    Check.due("place(1001)", x.place(1001), 3);
    Check.due("place(1)", x.place(1), 3);
    Check.bring(x, 1001, 0, 4);
    Check.due("place(1)", x.place(1), 4);
    Check.due("place(1002)", x.place(1002), 3);
  }

  private static void gotOut() {
    Check.sentence("or has got out, is where that was");
    BagRows x = Check.withKinds(1, 1, 0);
    Check.into(x, 1003, 2);
    Check.into(x, 1001, 1, 1003);
    Check.close(x, 1001);
    Check.due("move(1001, 2)", x.move(1001, 2), 4);
    Check.bring(x, 1002, 1, 5);
    Check.due("found(1002, 1)", x.found(1002, 1), 0);
    Check.due("found(1002, 1003)", x.found(1002, 1003), 0);
    Check.due("place(1)", x.place(1), 5);
    Check.due("place(1003)", x.place(1003), 5);
    Check.due("place(2), in 1003", x.place(2), 5);
    Check.due("take(1)", x.take(1), 1002);
    Check.due("place(1), taken out", x.place(1), 5);
    Check.due("place(1001)", x.place(1001), 2);
  }

  private static void unknown() {
    Check.sentence("place: UNKNOWN");
    BagRows x = Check.withKinds(0);
    for (int number : Unknown.things()) {
      Check.due("place(" + number + ")", x.place(number), BagRows.UNKNOWN);
    }
  }
}
