/**
 * The document's Terms: of several refusals the first one of UNKNOWN, OUTSIDE, STATE, ROOM counts.
 * Each call here is one for which two refusals or more would be right.
 */
public final class FirstRefusalTest {
  public static void main(String[] args) {
    outsideBeforeRoom();
    unknownBeforeOutside();
    unknownBeforeState();
    unknownBeforeRoom();
    outsideBeforeState();
    stateBeforeRoomOfInto();
    stateBeforeRoomOfFound();
    Check.end();
  }

  private static void outsideBeforeRoom() {
    Check.sentence("of several the first one: OUTSIDE before ROOM");
    BagRows x = new BagRows();
    for (int i = 1; i <= 60; i++) {
      Check.due("bag(0)", x.bag(0), 1000 + i);
    }
    Check.due("bag(4) of 61", x.bag(4), BagRows.OUTSIDE);
    Check.due("bag(-1) of 61", x.bag(-1), BagRows.OUTSIDE);
    Check.due("bag(3) of 61", x.bag(3), BagRows.ROOM);
  }

  private static void unknownBeforeOutside() {
    Check.sentence("of several the first one: UNKNOWN before OUTSIDE");
    BagRows x = Check.withKinds(0);
    for (int number : Unknown.receptacles()) {
      String of = "(" + number + ", ..)";
      Check.due("close" + of + ", seal 0", x.close(number, 0, 0), BagRows.UNKNOWN);
      Check.due("close" + of + ", person 50", x.close(number, 1, 50), BagRows.UNKNOWN);
      Check.due("open" + of + ", seal 0", x.open(number, 0, 1, -1), BagRows.UNKNOWN);
      Check.due("open" + of + ", a is -1", x.open(number, 1, -1, 1), BagRows.UNKNOWN);
      Check.due("open" + of + ", b is 50", x.open(number, 1, 1, 50), BagRows.UNKNOWN);
      Check.due("differ" + of + ", what 2", x.differ(number, 0, 2), BagRows.UNKNOWN);
      Check.due("weight" + of + ", -1", x.weight(number, -1), BagRows.UNKNOWN);
      Check.due("move" + of + ", to 10", x.move(number, 10), BagRows.UNKNOWN);
    }
  }

  private static void unknownBeforeState() {
    Check.sentence("of several the first one: UNKNOWN before STATE");
    BagRows x = Check.withKinds(0);
    Check.into(x, 1001, 1);
    for (int number : Unknown.things()) {
      Check.due("found, never closed", x.found(1001, number), BagRows.UNKNOWN);
    }
    Check.close(x, 1001);
    for (int number : Unknown.things()) {
      Check.due("into, closed", x.into(1001, number), BagRows.UNKNOWN);
      Check.due("found, closed", x.found(1001, number), BagRows.UNKNOWN);
      Check.due("into(" + number + ", 1), which lies in one", x.into(number, 1), BagRows.UNKNOWN);
    }
    Check.due("into(1002, 1002)", x.into(1002, 1002), BagRows.UNKNOWN);
    Check.due("found(1002, 1002)", x.found(1002, 1002), BagRows.UNKNOWN);
  }

  private static void unknownBeforeRoom() {
    Check.sentence("of several the first one: UNKNOWN before ROOM");
    BagRows x = Check.withKinds(0);
    Check.fill(x, 1001, 1, 12);
    Check.due("into(1001, 1000), full", x.into(1001, 1000), BagRows.UNKNOWN);
    Check.reopen(x, 1001, 0);
    Check.due("found(1001, 1000), full", x.found(1001, 1000), BagRows.UNKNOWN);
  }

  private static void outsideBeforeState() {
    Check.sentence("of several the first one: OUTSIDE before STATE");
    BagRows x = Check.withKinds(0);
    Check.due("open, it is open, seal 0", x.open(1001, 0, 1, -1), BagRows.OUTSIDE);
    Check.due("open, it is open, a is 50", x.open(1001, 1, 50, -1), BagRows.OUTSIDE);
    Check.due("open, it is open, b is -2", x.open(1001, 1, 1, -2), BagRows.OUTSIDE);
    Check.due("differ, never closed, what 2", x.differ(1001, 0, 2), BagRows.OUTSIDE);
    Check.due("move, it is open, to 10", x.move(1001, 10), BagRows.OUTSIDE);
    Check.close(x, 1001);
    Check.due("close, it is closed, seal 0", x.close(1001, 0, 0), BagRows.OUTSIDE);
    Check.due("close, it is closed, person 50", x.close(1001, 1, 50), BagRows.OUTSIDE);
    Check.due("open by the closer, seal 0", x.open(1001, 0, 0, -1), BagRows.OUTSIDE);
    Check.due("open by two, b is 50", x.open(1001, 1, 1, 50), BagRows.OUTSIDE);
    Check.due("differ, closed, what -1", x.differ(1001, 0, -1), BagRows.OUTSIDE);
  }

  private static void stateBeforeRoomOfInto() {
    Check.sentence("of several the first one: STATE before ROOM, for into");
    BagRows x = Check.withKinds(1, 1, 2);
    Check.fill(x, 1001, 1, 12);
    Check.into(x, 1002, 20);
    Check.due("into(1001, 1), which lies there", x.into(1001, 1), BagRows.STATE);
    Check.due("into(1001, 20), which lies in one", x.into(1001, 20), BagRows.STATE);
    Check.due("into(1001, 1001)", x.into(1001, 1001), BagRows.STATE);
    Check.due("into(1001, 1002), of the same kind", x.into(1001, 1002), BagRows.STATE);
    Check.due("into(1001, 30)", x.into(1001, 30), BagRows.ROOM);
    Check.bring(x, 1001, 1, 5);
    Check.due("into(1001, 30), at another place", x.into(1001, 30), BagRows.STATE);
    Check.bring(x, 1001, 1, 0);
    Check.close(x, 1001);
    Check.due("into(1001, 30), closed", x.into(1001, 30), BagRows.STATE);
    Check.open(x, 1001, 1);
    Check.into(x, 1003, 1001);
    Check.close(x, 1003);
    Check.due("into(1001, 30), in a closed one", x.into(1001, 30), BagRows.STATE);
  }

  private static void stateBeforeRoomOfFound() {
    Check.sentence("of several the first one: STATE before ROOM, for found");
    BagRows x = Check.withKinds(1, 1, 2);
    Check.fill(x, 1001, 1, 12);
    Check.due("found(1001, 30), never closed", x.found(1001, 30), BagRows.STATE);
    Check.into(x, 1003, 1001);
    Check.close(x, 1001);
    Check.due("found(1001, 30), closed", x.found(1001, 30), BagRows.STATE);
    Check.open(x, 1001, 1);
    Check.due("found(1001, 1001)", x.found(1001, 1001), BagRows.STATE);
    Check.due("found(1001, 1002), of the same kind", x.found(1001, 1002), BagRows.STATE);
    Check.due("found(1001, 1003), in which it lies", x.found(1001, 1003), BagRows.STATE);
    Check.due("found(1001, 30)", x.found(1001, 30), BagRows.ROOM);
  }
}
