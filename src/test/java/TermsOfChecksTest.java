/** The document's Terms: lists, differences, the time and its notes. */
public final class TermsOfChecksTest {
  public static void main(String[] args) {
    listIsWhatLiesInItThen();
    checkedAgainstItsList();
    weighingsSinceClosedLatest();
    sixWeighingsAtMost();
    missingInTheOrderOfTheList();
    extraInTheOrderOfFinding();
    sealOfTheLatestOpening();
    noteOfEachOtherSeal();
    noteOfEachWrongWeighing();
    noteOfEachExtraThing();
    dueAHundredBehind();
    Check.end();
  }

  private static void listIsWhatLiesInItThen() {
    Check.sentence("its LIST is what lies in it then, in order");
    BagRows x = Check.withKinds(1, 0);
    Check.into(x, 1002, 8);
    Check.into(x, 1001, 6, 1002, 5);
    Check.holdsInOrder(x, 1001, 6, 1002, 5);
    Check.open(x, 1001, 1);
    Check.due("take(6)", x.take(6), 1001);
    Check.into(x, 1001, 6);
    Check.due("document(1001, 0), as it was", x.document(1001, 0), 6);
    Check.holdsInOrder(x, 1001, 1002, 5, 6);
  }

  private static void checkedAgainstItsList() {
    Check.sentence("It is CHECKED then against its list");
    BagRows x = Check.withKinds(0);
    Check.into(x, 1001, 1, 2);
    Check.reopen(x, 1001, 0);
    Check.due("take(1)", x.take(1), 1001);
    Check.into(x, 1001, 3);
    Check.due("found(1001, 1), on the list", x.found(1001, 1), 1);
    Check.due("found(1001, 3), not on it", x.found(1001, 3), 0);
    Check.differences(x, 1001, 2, 2, 3, 3);
  }

  private static void weighingsSinceClosedLatest() {
    Check.sentence("each weighing that was wrong since it was closed latest");
    BagRows x = Check.withKinds(0);
    Check.due("weight 1, never closed", x.weight(1001, 1), 0);
    Check.close(x, 1001);
    Check.due("weight 2, closed", x.weight(1001, 2), 0);
    Check.open(x, 1001, 0);
    Check.due("weight 100, right", x.weight(1001, 100), 1);
    Check.due("weight 3, opened", x.weight(1001, 3), 0);
    Check.due("weight -1, refused", x.weight(1001, -1), BagRows.OUTSIDE);
    Check.due("weight 2, a second time", x.weight(1001, 2), 0);
    Check.differences(x, 1001, 1, 2, 1, 3, 1, 2);
    Check.close(x, 1001);
    Check.due("weight 4, closed again", x.weight(1001, 4), 0);
    Check.open(x, 1001, 0);
    Check.differences(x, 1001, 1, 4);
  }

  private static void sixWeighingsAtMost() {
    Check.sentence("in their order, six at most are kept");
    BagRows x = Check.withKinds(0);
    Check.close(x, 1001);
    for (int measured = 15; measured > 11; measured--) {
      Check.due("weight " + measured, x.weight(1001, measured), 0);
    }
    Check.open(x, 1001, 0);
    Check.due("weight 11, the fifth", x.weight(1001, 11), 0);
    Check.differences(x, 1001, 1, 15, 1, 14, 1, 13, 1, 12, 1, 11);
    Check.due("weight 10, the sixth", x.weight(1001, 10), 0);
    Check.differences(x, 1001, 1, 15, 1, 14, 1, 13, 1, 12, 1, 11, 1, 10);
    Check.due("weight 9, the seventh", x.weight(1001, 9), 0);
    Check.differences(x, 1001, 1, 15, 1, 14, 1, 13, 1, 12, 1, 11, 1, 10);
  }

  private static void missingInTheOrderOfTheList() {
    Check.sentence("things that are on the list and were not found, in its order");
    BagRows x = Check.withKinds(1, 0);
    Check.into(x, 1001, 8, 1002, 3, 5);
    Check.reopen(x, 1001, 1);
    Check.differences(x, 1001, 2, 8, 2, 1002, 2, 3, 2, 5);
    Check.due("take(8), it is missing still", x.take(8), 1001);
    Check.differences(x, 1001, 2, 8, 2, 1002, 2, 3, 2, 5);
    int[] found = {1002, 5, 8, 3};
    int[][] left = {{2, 8, 2, 3, 2, 5}, {2, 8, 2, 3}, {2, 3}, {}};
    for (int i = 0; i < found.length; i++) {
      Check.due("found(1001, " + found[i] + ")", x.found(1001, found[i]), 1);
      Check.differences(x, 1001, left[i]);
    }
  }

  private static void extraInTheOrderOfFinding() {
    Check.sentence("extra ones, in the order in which they were found");
    BagRows x = Check.withKinds(1, 0);
    Check.into(x, 1001, 30);
    Check.reopen(x, 1001, 1);
    Check.into(x, 1001, 31, 32);
    int[] extra = {32, 9, 1002, 31, 7};
    for (int thing : extra) {
      Check.due("found(1001, " + thing + ")", x.found(1001, thing), 0);
    }
    Check.due("take(9), it is extra still", x.take(9), 1001);
    Check.due("found(1001, 32) again", x.found(1001, 32), 0);
    Check.differences(x, 1001, 2, 30, 3, 32, 3, 9, 3, 1002, 3, 31, 3, 7);
  }

  private static void sealOfTheLatestOpening() {
    Check.sentence("since it was opened latest: the seal was another one (0)");
    BagRows x = Check.withKinds(0);
    Check.close(x, 1001);
    Check.due("open with 2", x.open(1001, 2, 1, -1), -1);
    Check.differences(x, 1001, 0, 2);
    Check.close(x, 1001);
    Check.due("open with 3", x.open(1001, 3, 1, -1), -1);
    Check.differences(x, 1001, 0, 3);
    Check.reopen(x, 1001, 0);
    Check.differences(x, 1001);
  }

  private static void noteOfEachOtherSeal() {
    Check.sentence("A NOTE comes with each opening at which the seal was another one");
    BagRows x = Check.withKinds(0);
    for (int i = 0; i < 3; i++) {
      Check.close(x, 1001);
      Check.due("open with 2", x.open(1001, 2, 1, -1), -1);
      Check.reopen(x, 1001, 0);
    }
    Check.due("tick(100)", x.tick(100), 3);
  }

  private static void noteOfEachWrongWeighing() {
    Check.sentence("each wrong weighing (also one that is not kept)");
    BagRows x = Check.withKinds(0);
    for (int i = 0; i < 9; i++) {
      Check.due("weight 0", x.weight(1001, 0), 0);
      Check.due("weight 100, right", x.weight(1001, 100), 1);
    }
    Check.due("tick(100)", x.tick(100), 9);
  }

  private static void noteOfEachExtraThing() {
    Check.sentence("and each extra thing");
    BagRows x = Check.withKinds(0, 0);
    Check.into(x, 1001, 1);
    Check.reopen(x, 1001, 0);
    Check.reopen(x, 1002, 0);
    Check.due("found(1001, 1), on the list", x.found(1001, 1), 1);
    Check.due("found(1001, 2)", x.found(1001, 2), 0);
    Check.due("found(1001, 2) again", x.found(1001, 2), 0);
    Check.due("found(1001, 3)", x.found(1001, 3), 0);
    Check.due("found(1002, 2), in another one", x.found(1002, 2), 0);
    Check.due("tick(100)", x.tick(100), 3);
  }

  private static void dueAHundredBehind() {
    Check.sentence("it is DUE 100 behind the time at which it came");
    long[] times = {0, 1, 99, 100, 101, 4294967296L, 999999999900L};
    for (long time : times) {
      for (int sort = 0; sort < 3; sort++) {
        BagRows x = Check.withKinds(0);
        Check.close(x, 1001);
        Check.due("tick(" + time + ")", x.tick(time), 0);
        noteComes(x, sort);
        Check.due("tick(" + (time + 99) + ")", x.tick(time + 99), 0);
        Check.due("tick(" + (time + 100) + ")", x.tick(time + 100), 1);
        Check.due("tick(" + (time + 100) + ") again", x.tick(time + 100), 0);
      }
    }
  }

  /** One note comes, of the seal, of a weighing or of an extra thing. */
  private static void noteComes(BagRows x, int sort) {
    if (sort == 0) {
      Check.due("open with 2", x.open(1001, 2, 1, -1), -1);
    } else if (sort == 1) {
      Check.due("weight 0", x.weight(1001, 0), 0);
    } else {
      Check.open(x, 1001, 0);
      Check.due("found(1001, 5)", x.found(1001, 5), 0);
    }
  }
}
