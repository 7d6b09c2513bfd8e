/** Promise 2: bag makes a receptacle more, at most 60. */
public final class Promise02BagTest {
  public static void main(String[] args) {
    kinds();
    room();
    newReceptacle();
    Check.end();
  }

  private static void kinds() {
    BagRows x = new BagRows();
    Check.due("bag(-1)", x.bag(-1), BagRows.OUTSIDE);
    Check.due("bag(4)", x.bag(4), BagRows.OUTSIDE);
    Check.due("bag(least)", x.bag(Integer.MIN_VALUE), BagRows.OUTSIDE);
    Check.due("bag(greatest)", x.bag(Integer.MAX_VALUE), BagRows.OUTSIDE);
    for (int kind = 0; kind <= 3; kind++) {
      Check.due("bag(" + kind + ")", x.bag(kind), 1001 + kind);
      Check.due("weight", x.weight(1001 + kind, 100 * kind + 100), 1);
    }
  }

  private static void room() {
    BagRows x = new BagRows();
    for (int i = 1; i <= 60; i++) {
      Check.due("bag(" + i % 4 + ")", x.bag(i % 4), 1000 + i);
    }
    Check.due("bag(0) of 61", x.bag(0), BagRows.ROOM);
    Check.due("bag(3) of 61", x.bag(3), BagRows.ROOM);
    Check.due("bag(4) of 61", x.bag(4), BagRows.OUTSIDE);
    Check.due("inside(1060)", x.inside(1060), 0);
    Check.due("inside(1061)", x.inside(1061), BagRows.UNKNOWN);
    Check.due("into(1060, 1061)", x.into(1060, 1061), BagRows.UNKNOWN);
  }

  private static void newReceptacle() {
    BagRows x = Check.withKinds(2);
    Check.due("place(1001)", x.place(1001), 0);
    Check.due("inside(1001)", x.inside(1001), 0);
    Check.due("document(1001, 0)", x.document(1001, 0), 0);
    Check.due("open", x.open(1001, 1, 0, 1), BagRows.STATE);
    Check.due("move(1001, 1)", x.move(1001, 1), BagRows.STATE);
    Check.due("close of an empty one", x.close(1001, 1, 0), 0);
  }
}
