/** Promise 9: inside tells the receptacle in which a thing lies. */
public final class Promise09InsideTest {
  public static void main(String[] args) {
    inWhichItLies();
    none();
    unknown();
    Check.end();
  }

  private static void inWhichItLies() {
    Check.sentence("The receptacle in which a thing lies");
    BagRows x = Check.nested();
    Check.into(x, 1001, 999);
    Check.into(x, 1004, 1);
    Check.due("inside(999), the innermost", x.inside(999), 1001);
    Check.due("inside(1)", x.inside(1), 1004);
    for (int bag = 1001; bag <= 1003; bag++) {
      Check.due("inside(" + bag + ")", x.inside(bag), bag + 1);
    }
    Check.close(x, 1004);
    Check.due("inside(999), closed", x.inside(999), 1001);
    Check.open(x, 1004, 3);
    Check.due("found(1004, 999)", x.found(1004, 999), 0);
    Check.due("inside(999), found", x.inside(999), 1004);
  }

  private static void none() {
    Check.sentence("0 for none");
    BagRows x = Check.withKinds(0, 1);
    int[] things = {1, 999, 1001, 1002};
    for (int thing : things) {
      Check.due("inside(" + thing + ")", x.inside(thing), 0);
    }
    Check.into(x, 1002, 1, 1001);
    Check.due("inside(1002), it lies in none itself", x.inside(1002), 0);
    Check.due("take(1)", x.take(1), 1002);
    Check.due("take(1001)", x.take(1001), 1002);
    Check.due("inside(1), taken out", x.inside(1), 0);
    Check.due("inside(1001), taken out", x.inside(1001), 0);
  }

  private static void unknown() {
    Check.sentence("inside: UNKNOWN");
    BagRows x = Check.withKinds(0);
    for (int number : Unknown.things()) {
      Check.due("inside(" + number + ")", x.inside(number), BagRows.UNKNOWN);
    }
  }
}
