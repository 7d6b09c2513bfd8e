/** Promise 1: a new object has no receptacles, and all items are at place 0. */
public final class Promise01NewObjectTest {
  public static void main(String[] args) {
    noReceptacles();
    itemsAtPlaceZero();
    nothingDue();
    objectsAreApart();
    Check.end();
  }

  private static void noReceptacles() {
    BagRows x = new BagRows();
    for (int number = 1000; number <= 1061; number++) {
      Check.due("inside(" + number + ")", x.inside(number), BagRows.UNKNOWN);
      Check.due("place(" + number + ")", x.place(number), BagRows.UNKNOWN);
      Check.due("take(" + number + ")", x.take(number), BagRows.UNKNOWN);
      Check.due("document(" + number + ", 0)", x.document(number, 0), BagRows.UNKNOWN);
    }
  }

  private static void itemsAtPlaceZero() {
    BagRows x = new BagRows();
    for (int item = 1; item <= 999; item++) {
      Check.due("place(" + item + ")", x.place(item), 0);
      Check.due("inside(" + item + ")", x.inside(item), 0);
    }
  }

  private static void nothingDue() {
    BagRows x = new BagRows();
    Check.due("tick(0)", x.tick(0), 0);
    Check.due("tick(10^12)", x.tick(1000000000000L), 0);
  }

  private static void objectsAreApart() {
    BagRows one = Check.withKinds(0, 1);
    Check.due("into(1001, 7)", one.into(1001, 7), 1);
    BagRows other = new BagRows();
    Check.due("inside(1001)", other.inside(1001), BagRows.UNKNOWN);
    Check.due("inside(7)", other.inside(7), 0);
    Check.due("bag(2)", other.bag(2), 1001);
  }
}
