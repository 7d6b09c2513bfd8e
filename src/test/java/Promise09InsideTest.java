/** Promise 9: inside tells the receptacle in which a thing lies. */
public final class Promise09InsideTest {
  public static void main(String[] args) {
    ordinary();
    unknown();
    Check.end();
  }

  private static void ordinary() {
    BagRows x = Check.withKinds(0, 1, 2);
    Check.due("inside(1)", x.inside(1), 0);
    Check.due("inside(999)", x.inside(999), 0);
    Check.due("inside(1001)", x.inside(1001), 0);
    Check.due("into(1001, 999)", x.into(1001, 999), 1);
    Check.due("into(1002, 1001)", x.into(1002, 1001), 1);
    Check.due("into(1003, 1002)", x.into(1003, 1002), 1);
    Check.due("inside(999), the innermost", x.inside(999), 1001);
    Check.due("inside(1001)", x.inside(1001), 1002);
    Check.due("inside(1002)", x.inside(1002), 1003);
    Check.due("inside(1003)", x.inside(1003), 0);
    Check.due("close(1003)", x.close(1003, 1, 0), 1);
    Check.due("inside(999), closed", x.inside(999), 1001);
    Check.due("open(1003)", x.open(1003, 1, 0, 1), 1);
    Check.due("take(999)", x.take(999), 1001);
    Check.due("inside(999), taken", x.inside(999), 0);
    Check.due("found(1003, 999)", x.found(1003, 999), 0);
    Check.due("inside(999), found", x.inside(999), 1003);
  }

  private static void unknown() {
    BagRows x = Check.withKinds(0);
    int[] noThings = {0, -1, 1000, 1002, 1060, 1061, Integer.MIN_VALUE, Integer.MAX_VALUE};
    for (int number : noThings) {
      Check.due("inside(" + number + ")", x.inside(number), BagRows.UNKNOWN);
    }
  }
}
