/** Promise 1: a new object has no receptacles, and all items are at place 0. */
public final class Promise01NewObjectTest {
  public static void main(String[] args) {
    noReceptacles();
    itemsAtPlaceZero();
    nothingDue();
    objectsAreApart();
    Check.end();
  }

  private static void noReceptacles() {
    Check.sentence("No receptacles");
    for (int number = 1000; number <= 1061; number++) {
      BagRows x = new BagRows();
      String of = "(" + number + ", ..) of a new object";
      Check.due("inside" + of, x.inside(number), BagRows.UNKNOWN);
      Check.due("place" + of, x.place(number), BagRows.UNKNOWN);
      Check.due("take" + of, x.take(number), BagRows.UNKNOWN);
      Check.due("into" + of, x.into(number, 1), BagRows.UNKNOWN);
      Check.due("close" + of, x.close(number, 1, 0), BagRows.UNKNOWN);
      Check.due("open" + of, x.open(number, 1, 1, -1), BagRows.UNKNOWN);
      Check.due("found" + of, x.found(number, 1), BagRows.UNKNOWN);
      Check.due("differ" + of, x.differ(number, 0, 0), BagRows.UNKNOWN);
      Check.due("weight" + of, x.weight(number, 100), BagRows.UNKNOWN);
      Check.due("document" + of, x.document(number, 0), BagRows.UNKNOWN);
      Check.due("move" + of, x.move(number, 0), BagRows.UNKNOWN);
    }
    Check.due("the first bag(0)", new BagRows().bag(0), 1001);
  }

  private static void itemsAtPlaceZero() {
    Check.sentence("all items are at place 0");
    BagRows x = new BagRows();
    for (int item = 1; item <= 999; item++) {
      // One object is not used for more than 512 calls.
      x = item % 250 == 0 ? new BagRows() : x;
      Check.due("place(" + item + ")", x.place(item), 0);
      Check.due("inside(" + item + ")", x.inside(item), 0);
    }
  }

  private static void nothingDue() {
    Check.sentence("TIME is a number that tick sets, 0 at first");
    BagRows x = new BagRows();
    Check.due("tick(-1)", x.tick(-1), BagRows.OUTSIDE);
    Check.due("tick(0)", x.tick(0), 0);
    Check.due("tick(10^12)", x.tick(1000000000000L), 0);
  }

  private static void objectsAreApart() {
    Check.sentence("a new object beside another one");
    BagRows one = Check.withKinds(0, 1);
    Check.into(one, 1001, 7);
    BagRows other = new BagRows();
    Check.due("inside(1001)", other.inside(1001), BagRows.UNKNOWN);
    Check.due("inside(7)", other.inside(7), 0);
    Check.due("bag(2)", other.bag(2), 1001);
    Check.weighs(other, 1001, 300);
    Check.weighs(one, 1001, 175);
  }
}
