/** Promise 4: take takes a thing out of the open receptacle in which it lies. */
public final class Promise04TakeTest {
  public static void main(String[] args) {
    takenOut();
    unknown();
    liesInNone();
    closed();
    inAClosedOne();
    Check.end();
  }

  private static void takenOut() {
    Check.sentence("A thing is taken out of the open receptacle in which it lies: that");
    BagRows x = Check.withKinds(0, 2);
    Check.fill(x, 1001, 1, 3);
    Check.into(x, 1002, 1001);
    Check.due("take(2), of the innermost", x.take(2), 1001);
    Check.due("inside(2)", x.inside(2), 0);
    Check.due("take(1001)", x.take(1001), 1002);
    Check.due("inside(1001)", x.inside(1001), 0);
    Check.due("inside(1), in what was taken", x.inside(1), 1001);
    Check.holdsInOrder(x, 1001, 1, 3);
    Check.holdsInOrder(x, 1002);
    Check.open(x, 1002, 2);
    Check.into(x, 1002, 1001);
    Check.due("take(1001), a closed one out of an open one", x.take(1001), 1002);
  }

  private static void unknown() {
    Check.sentence("take: UNKNOWN");
    BagRows x = Check.withKinds(0);
    for (int number : Unknown.things()) {
      Check.due("take(" + number + ")", x.take(number), BagRows.UNKNOWN);
    }
  }

  private static void liesInNone() {
    Check.sentence("STATE (it lies in none");
    BagRows x = Check.withKinds(0);
    int[] things = {1, 999, 1001};
    for (int thing : things) {
      Check.due("take(" + thing + ")", x.take(thing), BagRows.STATE);
    }
    Check.into(x, 1001, 1);
    Check.due("take(1)", x.take(1), 1001);
    Check.due("take(1) again", x.take(1), BagRows.STATE);
    Check.close(x, 1001);
    Check.due("take(1001), closed, in none", x.take(1001), BagRows.STATE);
  }

  private static void closed() {
    Check.sentence("that is closed");
    BagRows x = Check.withKinds(0, 1);
    Check.into(x, 1002, 1001, 2);
    Check.close(x, 1002);
    Check.due("take(2)", x.take(2), BagRows.STATE);
    Check.due("take(1001)", x.take(1001), BagRows.STATE);
    Check.open(x, 1002, 1);
    Check.due("take(2), open again", x.take(2), 1002);
    Check.due("take(1001), open again", x.take(1001), 1002);
  }

  private static void inAClosedOne() {
    Check.sentence("or in a closed one");
    for (int shut = 1002; shut <= 1004; shut++) {
      BagRows x = Check.nested();
      Check.into(x, 1001, 1);
      Check.close(x, shut);
      Check.due("take(1), " + shut + " is closed", x.take(1), BagRows.STATE);
      for (int bag = 1001; bag <= 1003; bag++) {
        Check.due("take(" + bag + "), " + shut + " is closed", x.take(bag),
            bag >= shut ? bag + 1 : BagRows.STATE);
      }
      Check.open(x, shut, shut - 1001);
      Check.due("take(1), all are open", x.take(1), 1001);
    }
  }
}
