/** Promise 14: tick sets the time and counts the notes that have come due. */
public final class Promise14TickTest {
  private static final long LAST_TIME = 1000000000000L;

  public static void main(String[] args) {
    sinceTheTickBefore();
    belowTheTime();
    aboveTheLast();
    notesAtTheLastTime();
    upToTheLastCall();
    Check.end();
  }

  private static void wrongWeighings(BagRows x, int many) {
    for (int i = 0; i < many; i++) {
      Check.due("weight(1001, 0)", x.weight(1001, 0), 0);
    }
  }

  private static void sinceTheTickBefore() {
    Check.sentence("It is another time: how many NOTES have come due since the tick before");
    BagRows x = Check.withKinds(0);
    Check.due("tick(5)", x.tick(5), 0);
    wrongWeighings(x, 2);
    Check.due("tick(60)", x.tick(60), 0);
    wrongWeighings(x, 1);
    Check.due("tick(104)", x.tick(104), 0);
    Check.due("tick(105)", x.tick(105), 2);
    Check.due("tick(105) again", x.tick(105), 0);
    Check.due("tick(159)", x.tick(159), 0);
    wrongWeighings(x, 3);
    Check.due("tick(300)", x.tick(300), 4);
    Check.due("tick(10^12)", x.tick(LAST_TIME), 0);
  }

  private static void belowTheTime() {
    Check.sentence("OUTSIDE (t is below the time");
    BagRows x = new BagRows();
    Check.due("tick(-1)", x.tick(-1), BagRows.OUTSIDE);
    Check.due("tick(the least)", x.tick(Long.MIN_VALUE), BagRows.OUTSIDE);
    Check.due("tick(0)", x.tick(0), 0);
    Check.due("tick(7)", x.tick(7), 0);
    Check.due("tick(6)", x.tick(6), BagRows.OUTSIDE);
    Check.due("tick(0)", x.tick(0), BagRows.OUTSIDE);
    Check.due("tick(7), the time", x.tick(7), 0);
    Check.due("tick(2^32)", x.tick(4294967296L), 0);
    Check.due("tick(2^32 - 1)", x.tick(4294967295L), BagRows.OUTSIDE);
  }

  private static void aboveTheLast() {
    Check.sentence("or above 10^12)");
    BagRows x = new BagRows();
    Check.due("tick(10^12 + 1)", x.tick(LAST_TIME + 1), BagRows.OUTSIDE);
    Check.due("tick(the greatest)", x.tick(Long.MAX_VALUE), BagRows.OUTSIDE);
    Check.due("tick(10^12)", x.tick(LAST_TIME), 0);
    Check.due("tick(10^12) again", x.tick(LAST_TIME), 0);
    Check.due("tick(10^12 - 1)", x.tick(LAST_TIME - 1), BagRows.OUTSIDE);
    Check.due("tick(10^12 + 100)", x.tick(LAST_TIME + 100), BagRows.OUTSIDE);
  }

  private static void notesAtTheLastTime() {
    Check.sentence("a note that comes less than 100 before the last time never comes due");
    BagRows x = Check.withKinds(0);
    Check.due("tick(10^12 - 100)", x.tick(LAST_TIME - 100), 0);
    wrongWeighings(x, 1);
    Check.due("tick(10^12 - 99)", x.tick(LAST_TIME - 99), 0);
    wrongWeighings(x, 1);
    Check.due("tick(10^12)", x.tick(LAST_TIME), 1);
    Check.due("tick(10^12) again", x.tick(LAST_TIME), 0);
  }

  private static void upToTheLastCall() {
    Check.sentence("An object is used for at most 512 calls after it has been made");
    BagRows x = Check.withKinds(0);
    wrongWeighings(x, 510);
    Check.due("tick(100), the 512th call", x.tick(100), 510);
  }
}
