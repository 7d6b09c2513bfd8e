/** Promise 2: bag makes a receptacle more, at most 60. */
public final class Promise02BagTest {
  public static void main(String[] args) {
    itsNumber();
    kindOutside();
    room();
    Check.end();
  }

  private static void itsNumber() {
    Check.sentence("A receptacle more: its number");
    BagRows x = new BagRows();
    for (int i = 0; i < 60; i++) {
      Check.due("bag(" + i % 4 + ")", x.bag(i % 4), 1001 + i);
      Check.due("inside of it", x.inside(1001 + i), 0);
      Check.due("inside of the next", x.inside(1002 + i), BagRows.UNKNOWN);
    }
  }

  private static void kindOutside() {
    Check.sentence("OUTSIDE (a kind is not 0 .. 3)");
    BagRows x = new BagRows();
    int[] outside = {-1, 4, -4, 1001, Integer.MIN_VALUE, Integer.MAX_VALUE};
    for (int kind : outside) {
      Check.due("bag(" + kind + ")", x.bag(kind), BagRows.OUTSIDE);
    }
    Check.due("bag(0), after those that were refused", x.bag(0), 1001);
    Check.due("bag(3)", x.bag(3), 1002);
  }

  private static void room() {
    Check.sentence("ROOM, as there are 60 receptacles at most");
    BagRows x = new BagRows();
    for (int i = 1; i <= 60; i++) {
      Check.due("bag(0), number " + i, x.bag(0), 1000 + i);
    }
    for (int kind = 0; kind <= 3; kind++) {
      Check.due("bag(" + kind + "), number 61", x.bag(kind), BagRows.ROOM);
    }
    Check.due("inside(1060)", x.inside(1060), 0);
    Check.due("inside(1061)", x.inside(1061), BagRows.UNKNOWN);
    Check.into(x, 1060, 1);
    Check.weighs(x, 1060, 115);
  }
}
