/** Promise 11: document tells the list of the latest closing. */
public final class Promise11DocumentTest {
  private static final int[] FAR = {-1, -12, 12, 13, Integer.MIN_VALUE, Integer.MAX_VALUE};

  public static void main(String[] args) {
    thingsInOrder();
    closedLatest();
    neverClosed();
    emptyWhenClosed();
    behindTheLast();
    unknown();
    Check.end();
  }

  private static void thingsInOrder() {
    Check.sentence("Thing i (0 the first) on the list of a receptacle");
    BagRows x = Check.withKinds(1, 0);
    Check.into(x, 1001, 5, 1002, 4);
    Check.holdsInOrder(x, 1001, 5, 1002, 4);
    Check.open(x, 1001, 1);
    Check.due("take(5)", x.take(5), 1001);
    Check.due("found(1001, 9)", x.found(1001, 9), 0);
    Check.due("document(1001, 0), taken out since", x.document(1001, 0), 5);
    Check.due("document(1001, 3), come since", x.document(1001, 3), 0);
  }

  private static void closedLatest() {
    Check.sentence("when it was closed latest");
    BagRows x = Check.withKinds(0);
    Check.into(x, 1001, 5, 6, 7);
    Check.holdsInOrder(x, 1001, 5, 6, 7);
    Check.open(x, 1001, 0);
    Check.due("take(5)", x.take(5), 1001);
    Check.due("take(7)", x.take(7), 1001);
    Check.holdsInOrder(x, 1001, 6);
    Check.due("document(1001, 2), on the list before", x.document(1001, 2), 0);
  }

  private static void neverClosed() {
    Check.sentence("0 when there is none such: never closed");
    BagRows x = Check.withKinds(0);
    Check.into(x, 1001, 5);
    Check.due("document(1001, 0)", x.document(1001, 0), 0);
    none(x);
  }

  private static void emptyWhenClosed() {
    Check.sentence("0 when there is none such: empty when it was closed");
    BagRows x = Check.withKinds(0);
    Check.into(x, 1001, 5);
    Check.reopen(x, 1001, 0);
    Check.due("take(5)", x.take(5), 1001);
    Check.holdsInOrder(x, 1001);
    none(x);
  }

  private static void behindTheLast() {
    Check.sentence("0 when there is none such: before the first, behind the last");
    BagRows x = Check.withKinds(0);
    Check.fill(x, 1001, 21, 32);
    Check.close(x, 1001);
    Check.due("document(1001, 0)", x.document(1001, 0), 21);
    Check.due("document(1001, 11)", x.document(1001, 11), 32);
    none(x);
  }

  private static void none(BagRows x) {
    for (int i : FAR) {
      Check.due("document(1001, " + i + ")", x.document(1001, i), 0);
    }
  }

  private static void unknown() {
    Check.sentence("document: UNKNOWN");
    BagRows x = Check.withKinds(0);
    for (int number : Unknown.receptacles()) {
      Check.due("document(" + number + ", 0)", x.document(number, 0), BagRows.UNKNOWN);
      Check.due("document(" + number + ", -1)", x.document(number, -1), BagRows.UNKNOWN);
    }
  }
}
