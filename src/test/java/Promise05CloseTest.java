/** Promise 5: close seals a receptacle and answers how many things are on its list. */
public final class Promise05CloseTest {
  public static void main(String[] args) {
    howMany();
    unknown();
    sealOutside();
    personOutside();
    closed();
    inAClosedOne();
    Check.end();
  }

  private static void howMany() {
    Check.sentence("A receptacle is CLOSED: how many things are on its list");
    for (int many = 0; many <= 12; many++) {
      BagRows x = Check.withKinds(many % 4);
      Check.fill(x, 1001, 1, many);
      Check.due("close of " + many, x.close(1001, 5, 5), many);
      Check.due("into(1001, 13), closed", x.into(1001, 13), BagRows.STATE);
    }
    BagRows x = Check.withKinds(0, 1);
    Check.fill(x, 1001, 1, 3);
    Check.into(x, 1002, 1001);
    Check.due("close(1002), one thing with three in it", x.close(1002, 5, 5), 1);
  }

  private static void unknown() {
    Check.sentence("close: UNKNOWN");
    BagRows x = Check.withKinds(0);
    for (int number : Unknown.receptacles()) {
      Check.due("close(" + number + ", 1, 0)", x.close(number, 1, 0), BagRows.UNKNOWN);
    }
  }

  private static void sealOutside() {
    Check.sentence("OUTSIDE (a seal is not 1 .. 10^9");
    BagRows x = Check.withKinds(0, 0);
    long[] outside = {
      0, -1, 1000000001L, 4294967296L, 4294967297L, -4294967295L, Long.MIN_VALUE, Long.MAX_VALUE
    };
    for (long seal : outside) {
      Check.due("close(1001, " + seal + ", 0)", x.close(1001, seal, 0), BagRows.OUTSIDE);
    }
    Check.due("close(1001, 1, 0), the least", x.close(1001, 1, 0), 0);
    Check.due("close(1002, 10^9, 0), the greatest", x.close(1002, 1000000000L, 0), 0);
  }

  private static void personOutside() {
    Check.sentence("a person not 0 .. 49)");
    BagRows x = Check.withKinds(0, 0);
    int[] outside = {-1, -2, 50, 1000, Integer.MIN_VALUE, Integer.MAX_VALUE};
    for (int who : outside) {
      Check.due("close(1001, 1, " + who + ")", x.close(1001, 1, who), BagRows.OUTSIDE);
    }
    Check.due("close(1001, 1, 0), the first person", x.close(1001, 1, 0), 0);
    Check.due("close(1002, 1, 49), the last person", x.close(1002, 1, 49), 0);
  }

  private static void closed() {
    Check.sentence("STATE (it is closed");
    BagRows x = Check.withKinds(0);
    Check.close(x, 1001);
    Check.due("close(1001) again", x.close(1001, 1, 0), BagRows.STATE);
    Check.open(x, 1001, 0);
    Check.due("close(1001), opened", x.close(1001, 1, 0), 0);
  }

  private static void inAClosedOne() {
    Check.sentence("or lies in a closed one)");
    for (int shut = 1002; shut <= 1004; shut++) {
      BagRows x = Check.nested();
      Check.close(x, shut);
      for (int bag = 1001; bag <= 1004; bag++) {
        Check.due("close(" + bag + "), " + shut + " is closed", x.close(bag, 1, 0),
            bag > shut ? 1 : BagRows.STATE);
      }
    }
    BagRows x = Check.nested();
    for (int bag = 1001; bag <= 1004; bag++) {
      Check.due("close(" + bag + "), the innermost first", x.close(bag, 1, 0), bag > 1001 ? 1 : 0);
    }
  }
}
