import java.util.ArrayList;
import java.util.List;

/**
 * The document's Terms: a call that is refused changes nothing. Of two objects that were used alike
 * one gets a call that is refused; after it both answer a long row of other calls alike.
 */
public final class RefusedChangesNothingTest {
  private static final int BAG = 0, INTO = 1, TAKE = 2, CLOSE = 3, OPEN = 4, FOUND = 5, DIFFER = 6;
  private static final int INSIDE = 7, WEIGHT = 8, DOCUMENT = 9, MOVE = 10, PLACE = 11, TICK = 12;
  private static final int LAST_BAG = 1007;

  public static void main(String[] args) {
    refusedBag();
    refusedInto();
    refusedTake();
    refusedClose();
    refusedOpen();
    refusedFound();
    refusedMove();
    refusedWeightAndTick();
    refusedQuestions();
    Check.end();
  }

  /** 1001 in 1002 in 1003, open and checked; 1004 closed; 1005 closed, at 3; 1006 full, 1007 closed. */
  private static BagRows used() {
    BagRows x = Check.withKinds(0, 1, 2, 0, 1, 0, 3);
    Check.into(x, 1001, 1, 2);
    Check.into(x, 1002, 1001, 3);
    Check.into(x, 1003, 1002, 4);
    Check.due("close", x.close(1001, 11, 5), 2);
    Check.due("open", x.open(1001, 12, 6, -1), -1);
    Check.due("found", x.found(1001, 1), 1);
    Check.into(x, 1004, 7, 8);
    Check.due("close", x.close(1004, 13, 6), 2);
    Check.due("close", x.close(1005, 14, 7), 0);
    Check.due("move", x.move(1005, 3), 1);
    Check.fill(x, 1006, 21, 32);
    Check.due("close", x.close(1006, 15, 8), 12);
    Check.due("open", x.open(1006, 15, 9, -1), 1);
    Check.due("close", x.close(1007, 16, 9), 0);
    Check.due("tick", x.tick(50), 0);
    Check.due("found", x.found(1001, 9), 0);
    Check.due("weight", x.weight(1004, 0), 0);
    return x;
  }

  private static void refused(int answer, int method, int a, int b, int c, long big) {
    Call call = Call.of(method, a, b, c, big);
    BagRows one = used();
    BagRows other = used();
    Check.due(call.toString(), call.on(one), answer);
    List<Call> later = later();
    for (int i = 0; i < later.size(); i++) {
      Check.due("after " + call + " was refused, " + later.get(i), later.get(i).on(one),
          later.get(i).on(other));
    }
  }

  /** Calls whose answers tell all that a call can have changed; fewer than 512 with those before. */
  private static List<Call> later() {
    List<Call> calls = new ArrayList<>();
    questions(calls);
    // Whether the time is 50 still, and which notes there are.
    calls.add(Call.of(TICK, 0, 0, 0, 50));
    calls.add(Call.of(TICK, 0, 0, 0, 100));
    calls.add(Call.of(TICK, 0, 0, 0, 150));
    // The closers first, who are refused, then others with the seals.
    int[] seals = {0, 0, 0, 13, 14, 0, 16};
    int[] closers = {0, 0, 0, 6, 7, 0, 9};
    for (int i = 3; i < seals.length; i++) {
      int second = i == 6 ? 1 : -1;
      calls.add(Call.of(OPEN, 1001 + i, closers[i], -1, seals[i]));
      calls.add(Call.of(OPEN, 1001 + i, 40, second, seals[i]));
    }
    for (int bag = 1001; bag <= LAST_BAG; bag++) {
      calls.add(Call.of(DIFFER, bag, 0, 1, 0));
      calls.add(Call.of(INTO, bag, 50, 0, 0));
      calls.add(Call.of(CLOSE, bag, 1, 0, 1));
      calls.add(Call.of(DOCUMENT, bag, 0, 0, 0));
      calls.add(Call.of(DOCUMENT, bag, 1, 0, 0));
      calls.add(Call.of(DOCUMENT, bag, 2, 0, 0));
      calls.add(Call.of(MOVE, bag, 8, 0, 0));
    }
    calls.add(Call.of(BAG, 0, 0, 0, 0));
    calls.add(Call.of(PLACE, 1009, 0, 0, 0));
    return calls;
  }

  private static void questions(List<Call> calls) {
    for (int bag = 1001; bag <= LAST_BAG; bag++) {
      for (int i = 0; i < 4; i++) {
        calls.add(Call.of(DIFFER, bag, i, 0, 0));
        calls.add(Call.of(DIFFER, bag, i, 1, 0));
        calls.add(Call.of(DOCUMENT, bag, i, 0, 0));
      }
    }
    int[] things = {1, 2, 3, 4, 7, 8, 9, 21, 32, 40, 1001, 1002, 1003, 1004, 1005, 1006, 1007};
    for (int thing : things) {
      calls.add(Call.of(INSIDE, thing, 0, 0, 0));
      calls.add(Call.of(PLACE, thing, 0, 0, 0));
    }
  }

  private static void refusedBag() {
    Check.sentence("A call that is refused changes nothing: bag");
    refused(BagRows.OUTSIDE, BAG, -1, 0, 0, 0);
    refused(BagRows.OUTSIDE, BAG, 4, 0, 0, 0);
    BagRows x = new BagRows();
    for (int i = 1; i <= 60; i++) {
      Check.due("bag(1)", x.bag(1), 1000 + i);
    }
    Check.due("bag(3)", x.bag(3), BagRows.ROOM);
    Check.due("place(1061)", x.place(1061), BagRows.UNKNOWN);
    Check.weighs(x, 1060, 200);
    Check.weighs(x, 1001, 200);
  }

  private static void refusedInto() {
    Check.sentence("A call that is refused changes nothing: into");
    refused(BagRows.UNKNOWN, INTO, 1001, 1000, 0, 0);
    refused(BagRows.UNKNOWN, INTO, 1008, 40, 0, 0);
    refused(BagRows.STATE, INTO, 1004, 40, 0, 0);
    refused(BagRows.STATE, INTO, 1003, 1, 0, 0);
    refused(BagRows.STATE, INTO, 1003, 1003, 0, 0);
    refused(BagRows.STATE, INTO, 1002, 1005, 0, 0);
    refused(BagRows.STATE, INTO, 1003, 1005, 0, 0);
    refused(BagRows.ROOM, INTO, 1006, 40, 0, 0);
  }

  private static void refusedTake() {
    Check.sentence("A call that is refused changes nothing: take");
    refused(BagRows.UNKNOWN, TAKE, 1000, 0, 0, 0);
    refused(BagRows.STATE, TAKE, 40, 0, 0, 0);
    refused(BagRows.STATE, TAKE, 1003, 0, 0, 0);
    refused(BagRows.STATE, TAKE, 7, 0, 0, 0);
  }

  private static void refusedClose() {
    Check.sentence("A call that is refused changes nothing: close");
    refused(BagRows.UNKNOWN, CLOSE, 1008, 0, 0, 1);
    refused(BagRows.OUTSIDE, CLOSE, 1001, 0, 0, 0);
    refused(BagRows.OUTSIDE, CLOSE, 1001, 0, 0, 1000000001L);
    refused(BagRows.OUTSIDE, CLOSE, 1001, -1, 0, 1);
    refused(BagRows.OUTSIDE, CLOSE, 1001, 50, 0, 1);
    refused(BagRows.STATE, CLOSE, 1004, 40, 0, 99);
    refused(BagRows.STATE, CLOSE, 1007, 40, 0, 99);
  }

  private static void refusedOpen() {
    Check.sentence("A call that is refused changes nothing: open");
    refused(BagRows.UNKNOWN, OPEN, 1008, 1, -1, 13);
    refused(BagRows.OUTSIDE, OPEN, 1004, 1, -1, 0);
    refused(BagRows.OUTSIDE, OPEN, 1004, 1, -1, 1000000001L);
    refused(BagRows.OUTSIDE, OPEN, 1004, 50, -1, 99);
    refused(BagRows.OUTSIDE, OPEN, 1004, 1, -2, 99);
    refused(BagRows.OUTSIDE, OPEN, 1007, 1, 50, 99);
    refused(BagRows.STATE, OPEN, 1001, 1, -1, 99);
    refused(BagRows.STATE, OPEN, 1003, 1, 2, 99);
    refused(BagRows.STATE, OPEN, 1004, 6, -1, 99);
    refused(BagRows.STATE, OPEN, 1004, 1, 2, 99);
    refused(BagRows.STATE, OPEN, 1007, 1, -1, 99);
    refused(BagRows.STATE, OPEN, 1007, 1, 1, 99);
  }

  private static void refusedFound() {
    Check.sentence("A call that is refused changes nothing: found");
    refused(BagRows.UNKNOWN, FOUND, 1001, 1000, 0, 0);
    refused(BagRows.UNKNOWN, FOUND, 1008, 40, 0, 0);
    refused(BagRows.STATE, FOUND, 1003, 40, 0, 0);
    refused(BagRows.STATE, FOUND, 1004, 7, 0, 0);
    refused(BagRows.STATE, FOUND, 1004, 40, 0, 0);
    refused(BagRows.STATE, FOUND, 1001, 1001, 0, 0);
    refused(BagRows.STATE, FOUND, 1001, 1002, 0, 0);
    refused(BagRows.STATE, FOUND, 1001, 1005, 0, 0);
    refused(BagRows.ROOM, FOUND, 1006, 1, 0, 0);
    refused(BagRows.ROOM, FOUND, 1006, 40, 0, 0);
  }

  private static void refusedMove() {
    Check.sentence("A call that is refused changes nothing: move");
    refused(BagRows.UNKNOWN, MOVE, 1008, 2, 0, 0);
    refused(BagRows.OUTSIDE, MOVE, 1004, -1, 0, 0);
    refused(BagRows.OUTSIDE, MOVE, 1004, 10, 0, 0);
    refused(BagRows.STATE, MOVE, 1003, 2, 0, 0);
    refused(BagRows.STATE, MOVE, 1001, 2, 0, 0);
  }

  private static void refusedWeightAndTick() {
    Check.sentence("A call that is refused changes nothing: weight, tick");
    refused(BagRows.UNKNOWN, WEIGHT, 1008, 0, 0, 100);
    refused(BagRows.OUTSIDE, WEIGHT, 1001, 0, 0, -1);
    refused(BagRows.OUTSIDE, WEIGHT, 1001, 0, 0, 1000000001L);
    refused(BagRows.OUTSIDE, TICK, 0, 0, 0, 49);
    refused(BagRows.OUTSIDE, TICK, 0, 0, 0, 1000000000001L);
  }

  private static void refusedQuestions() {
    Check.sentence("A call that is refused changes nothing: differ, inside, document, place");
    refused(BagRows.UNKNOWN, DIFFER, 1008, 0, 0, 0);
    refused(BagRows.OUTSIDE, DIFFER, 1001, 0, 2, 0);
    refused(BagRows.STATE, DIFFER, 1004, 0, 0, 0);
    refused(BagRows.UNKNOWN, INSIDE, 1000, 0, 0, 0);
    refused(BagRows.UNKNOWN, DOCUMENT, 1008, 0, 0, 0);
    refused(BagRows.UNKNOWN, PLACE, 1008, 0, 0, 0);
  }
}
