/** Promise 14: tick sets the time and counts the notes that have come due. */
public final class Promise14TickTest {
  public static void main(String[] args) {
    edgesOfTime();
    dueAHundredBehind();
    eachSortOfNote();
    manyNotes();
    Check.end();
  }

  private static void edgesOfTime() {
    BagRows x = new BagRows();
    Check.due("tick(-1)", x.tick(-1), BagRows.OUTSIDE);
    Check.due("tick(least)", x.tick(Long.MIN_VALUE), BagRows.OUTSIDE);
    Check.due("tick(greatest)", x.tick(Long.MAX_VALUE), BagRows.OUTSIDE);
    Check.due("tick(10^12 + 1)", x.tick(1000000000001L), BagRows.OUTSIDE);
    Check.due("tick(0)", x.tick(0), 0);
    Check.due("tick(7)", x.tick(7), 0);
    Check.due("tick(6)", x.tick(6), BagRows.OUTSIDE);
    Check.due("tick(7) again", x.tick(7), 0);
    Check.due("tick(10^12)", x.tick(1000000000000L), 0);
    Check.due("tick(10^12) again", x.tick(1000000000000L), 0);
    Check.due("tick(10^12 - 1)", x.tick(999999999999L), BagRows.OUTSIDE);
  }

  private static void dueAHundredBehind() {
    BagRows x = Check.withKinds(0);
    Check.due("tick(5)", x.tick(5), 0);
    Check.due("wrong at 5", x.weight(1001, 0), 0);
    Check.due("wrong at 5", x.weight(1001, 0), 0);
    Check.due("tick(60)", x.tick(60), 0);
    Check.due("wrong at 60", x.weight(1001, 0), 0);
    Check.due("tick(104)", x.tick(104), 0);
    Check.due("tick(10^12 + 1), refused", x.tick(1000000000001L), BagRows.OUTSIDE);
    Check.due("tick(105)", x.tick(105), 2);
    Check.due("tick(105) again", x.tick(105), 0);
    Check.due("tick(159)", x.tick(159), 0);
    Check.due("wrong at 159", x.weight(1001, 0), 0);
    Check.due("tick(300)", x.tick(300), 2);
    Check.due("tick(1000)", x.tick(1000), 0);
  }

  private static void eachSortOfNote() {
    BagRows x = Check.withKinds(0);
    Check.due("into(1001, 1)", x.into(1001, 1), 1);
    Check.due("close", x.close(1001, 1, 0), 1);
    Check.due("another seal", x.open(1001, 2, 1, -1), -1);
    Check.due("tick(1)", x.tick(1), 0);
    Check.due("an extra thing", x.found(1001, 2), 0);
    Check.due("on the list", x.found(1001, 1), 1);
    Check.due("tick(2)", x.tick(2), 0);
    Check.due("a wrong weighing", x.weight(1001, 0), 0);
    Check.due("close", x.close(1001, 1, 0), 2);
    Check.due("the seal", x.open(1001, 1, 1, -1), 1);
    Check.due("tick(100)", x.tick(100), 1);
    Check.due("tick(101)", x.tick(101), 1);
    Check.due("tick(102)", x.tick(102), 1);
    Check.due("tick(10^12)", x.tick(1000000000000L), 0);
  }

  private static void manyNotes() {
    BagRows x = Check.withKinds(0);
    for (int i = 0; i < 510; i++) {
      Check.due("wrong", x.weight(1001, i >= 90 ? i + 1000 : i), 0);
    }
    Check.due("tick(100), the 512th call", x.tick(100), 510);
  }
}
