/** Promise 11: document tells the list of the latest closing. */
public final class Promise11DocumentTest {
  public static void main(String[] args) {
    neverClosed();
    latestClosing();
    edges();
    unknown();
    Check.end();
  }

  private static void neverClosed() {
    BagRows x = Check.withKinds(0);
    Check.due("into(1001, 5)", x.into(1001, 5), 1);
    Check.due("document(1001, 0)", x.document(1001, 0), 0);
  }

  private static void latestClosing() {
    BagRows x = Check.withKinds(1, 0);
    Check.due("into(1001, 5)", x.into(1001, 5), 1);
    Check.due("into(1001, 1002)", x.into(1001, 1002), 1);
    Check.due("into(1001, 4)", x.into(1001, 4), 1);
    Check.due("close", x.close(1001, 1, 0), 3);
    Check.due("document(1001, 0)", x.document(1001, 0), 5);
    Check.due("document(1001, 1)", x.document(1001, 1), 1002);
    Check.due("document(1001, 2)", x.document(1001, 2), 4);
    Check.due("open", x.open(1001, 1, 1, -1), 1);
    Check.due("take(5)", x.take(5), 1001);
    Check.due("found(1001, 9)", x.found(1001, 9), 0);
    Check.due("document(1001, 0), open and changed", x.document(1001, 0), 5);
    Check.due("document(1001, 3), open and changed", x.document(1001, 3), 0);
    Check.due("take(4)", x.take(4), 1001);
    Check.due("close again", x.close(1001, 1, 0), 2);
    Check.due("document(1001, 0), the latest", x.document(1001, 0), 1002);
    Check.due("document(1001, 1), the latest", x.document(1001, 1), 9);
    Check.due("document(1001, 2), the latest", x.document(1001, 2), 0);
  }

  private static void edges() {
    BagRows x = Check.withKinds(0);
    Check.fill(x, 1001, 21, 32);
    Check.due("close", x.close(1001, 1, 0), 12);
    Check.due("document(1001, 11)", x.document(1001, 11), 32);
    int[] none = {-1, 12, 13, Integer.MIN_VALUE, Integer.MAX_VALUE};
    for (int i : none) {
      Check.due("document(1001, " + i + ")", x.document(1001, i), 0);
    }
  }

  private static void unknown() {
    BagRows x = Check.withKinds(0);
    int[] none = {0, 1, 999, 1000, 1002, 1061, Integer.MIN_VALUE, Integer.MAX_VALUE};
    for (int number : none) {
      Check.due("document(" + number + ", 0)", x.document(number, 0), BagRows.UNKNOWN);
    }
  }
}
