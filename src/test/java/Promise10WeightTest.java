/** Promise 10: weight compares what is measured with what a receptacle weighs. */
public final class Promise10WeightTest {
  public static void main(String[] args) {
    fiftiethAway();
    fiftiethIsCut();
    closedOrInAnother();
    unknown();
    measuredOutside();
    Check.end();
  }

  private static void fiftiethAway() {
    Check.sentence("1; 0 if what is measured is more than a fiftieth of its weight away");
    BagRows x = Check.withKinds(0);
    long[] right = {98, 99, 100, 101, 102};
    long[] wrong = {0, 97, 103, 1000000000};
    for (long measured : right) {
      Check.due("weight of 100 is " + measured, x.weight(1001, measured), 1);
    }
    for (long measured : wrong) {
      Check.due("weight of 100 is " + measured, x.weight(1001, measured), 0);
    }
    Check.due("tick(100), a note for each that was wrong", x.tick(100), wrong.length);
  }

  private static void fiftiethIsCut() {
    Check.sentence("a fiftieth (cut) of its weight");
    BagRows x = Check.withKinds(0);
    // 4 weighs 45: 145, of which a fiftieth is 2.9.
    Check.into(x, 1001, 4);
    Check.due("143", x.weight(1001, 143), 1);
    Check.due("142", x.weight(1001, 142), 0);
    Check.due("147", x.weight(1001, 147), 1);
    Check.due("148", x.weight(1001, 148), 0);
    // 50 weighs 5: 150, of which a fiftieth is 3.
    Check.into(x, 1001, 50);
    Check.due("147", x.weight(1001, 147), 1);
    Check.due("146", x.weight(1001, 146), 0);
    Check.due("153", x.weight(1001, 153), 1);
    Check.due("154", x.weight(1001, 154), 0);
  }

  private static void closedOrInAnother() {
    Check.sentence("A receptacle is weighed");
    BagRows x = Check.nested();
    Check.into(x, 1001, 7);
    Check.close(x, 1001);
    Check.weighs(x, 1001, 175);
    Check.close(x, 1004);
    Check.weighs(x, 1001, 175);
    Check.weighs(x, 1002, 375);
    Check.weighs(x, 1004, 1075);
  }

  private static void unknown() {
    Check.sentence("weight: UNKNOWN");
    BagRows x = Check.withKinds(0);
    for (int number : Unknown.receptacles()) {
      Check.due("weight(" + number + ", 100)", x.weight(number, 100), BagRows.UNKNOWN);
    }
  }

  private static void measuredOutside() {
    Check.sentence("OUTSIDE (measured is not 0 .. 10^9)");
    BagRows x = Check.withKinds(0);
    long[] outside = {
      -1, -100, 1000000001L, 4294967296L, 4294967396L, -4294967196L, Long.MIN_VALUE, Long.MAX_VALUE
    };
    for (long measured : outside) {
      Check.due("weight(1001, " + measured + ")", x.weight(1001, measured), BagRows.OUTSIDE);
    }
    Check.due("tick(100), no notes", x.tick(100), 0);
    Check.due("weight(1001, 0)", x.weight(1001, 0), 0);
    Check.due("weight(1001, 10^9)", x.weight(1001, 1000000000L), 0);
  }
}
