/** Promise 3: into lays a thing in a receptacle, behind what lies there. */
public final class Promise03IntoTest {
  public static void main(String[] args) {
    behindWhatLiesThere();
    unknown();
    closed();
    inAClosedOne();
    liesInOne();
    itself();
    kinds();
    anotherPlace();
    room();
    Check.end();
  }

  private static void behindWhatLiesThere() {
    Check.sentence("A thing comes into a receptacle that is open .. behind what lies there: 1");
    BagRows x = Check.withKinds(1, 0);
    Check.into(x, 1001, 30, 999, 1, 1002);
    Check.due("take(999)", x.take(999), 1001);
    Check.into(x, 1001, 999);
    Check.holdsInOrder(x, 1001, 30, 1, 1002, 999);
    Check.due("inside(30)", x.inside(30), 1001);
    BagRows y = Check.withKinds(0, 1);
    Check.close(y, 1001);
    Check.due("into(1002, 1001), a closed one into an open one", y.into(1002, 1001), 1);
  }

  private static void unknown() {
    Check.sentence("into: UNKNOWN");
    BagRows x = Check.withKinds(3);
    for (int number : Unknown.things()) {
      Check.due("into(1001, " + number + ")", x.into(1001, number), BagRows.UNKNOWN);
    }
    for (int number : Unknown.receptacles()) {
      Check.due("into(" + number + ", 1)", x.into(number, 1), BagRows.UNKNOWN);
    }
    Check.into(x, 1001, 1, 999);
  }

  private static void closed() {
    Check.sentence("STATE (it is closed");
    BagRows x = Check.withKinds(0);
    Check.close(x, 1001);
    Check.due("into(1001, 1), closed", x.into(1001, 1), BagRows.STATE);
    Check.open(x, 1001, 0);
    Check.due("into(1001, 1), open again", x.into(1001, 1), 1);
  }

  private static void inAClosedOne() {
    Check.sentence("or in a closed one, at whatever depth");
    for (int shut = 1002; shut <= 1004; shut++) {
      BagRows x = Check.nested();
      Check.close(x, shut);
      for (int bag = 1001; bag <= 1004; bag++) {
        Check.due("into(" + bag + ", .), " + shut + " is closed", x.into(bag, bag - 1000),
            bag > shut ? 1 : BagRows.STATE);
      }
      Check.open(x, shut, shut - 1001);
      Check.due("into(1001, 5), all are open", x.into(1001, 5), 1);
    }
  }

  private static void liesInOne() {
    Check.sentence("the thing lies in one");
    BagRows x = Check.withKinds(1, 2, 0);
    Check.into(x, 1001, 5, 1003);
    Check.due("into(1001, 5), where it lies", x.into(1001, 5), BagRows.STATE);
    Check.due("into(1002, 5), in another one", x.into(1002, 5), BagRows.STATE);
    Check.due("into(1001, 1003), where it lies", x.into(1001, 1003), BagRows.STATE);
    Check.due("into(1002, 1003), in another one", x.into(1002, 1003), BagRows.STATE);
    Check.holdsInOrder(x, 1001, 5, 1003);
    Check.holdsInOrder(x, 1002);
  }

  private static void itself() {
    Check.sentence("it is the receptacle itself");
    BagRows x = Check.withKinds(0, 1, 2, 3);
    for (int bag = 1001; bag <= 1004; bag++) {
      Check.due("into(" + bag + ", " + bag + ")", x.into(bag, bag), BagRows.STATE);
      Check.due("inside(" + bag + ")", x.inside(bag), 0);
    }
  }

  private static void kinds() {
    Check.sentence("or of a kind that is not less");
    for (int outer = 0; outer <= 3; outer++) {
      for (int inner = 0; inner <= 3; inner++) {
        BagRows x = Check.withKinds(outer, inner);
        Check.due("into, kind " + inner + " into " + outer, x.into(1001, 1002),
            inner < outer ? 1 : BagRows.STATE);
      }
      Check.into(Check.withKinds(outer), 1001, 1);
    }
  }

  private static void anotherPlace() {
    Check.sentence("it is at another place");
    BagRows x = Check.withKinds(0, 1);
    Check.bring(x, 1001, 0, 3);
    Check.due("into(1002, 1001), at 3 into one at 0", x.into(1002, 1001), BagRows.STATE);
    Check.due("into(1001, 8), at 0 into one at 3", x.into(1001, 8), BagRows.STATE);
    Check.bring(x, 1002, 1, 3);
    Check.due("into(1002, 1001), both at 3", x.into(1002, 1001), 1);
    Check.due("into(1001, 8), at 0 into one that lies in one at 3", x.into(1001, 8), BagRows.STATE);
    Check.bring(x, 1002, 1, 0);
    Check.due("into(1001, 8), all at 0 again", x.into(1001, 8), 1);
  }

  private static void room() {
    Check.sentence("into: ROOM");
    for (int kind = 0; kind <= 3; kind++) {
      BagRows x = Check.withKinds(kind);
      Check.fill(x, 1001, 1, 12);
      Check.due("into(1001, 13)", x.into(1001, 13), BagRows.ROOM);
      Check.due("inside(13)", x.inside(13), 0);
      Check.due("take(4)", x.take(4), 1001);
      Check.due("into(1001, 13), room for one", x.into(1001, 13), 1);
      Check.due("into(1001, 4), full again", x.into(1001, 4), BagRows.ROOM);
    }
  }
}
