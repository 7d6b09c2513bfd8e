/** The document's Terms: which things there are, how they lie in one another, and their weights. */
public final class TermsOfThingsTest {
  public static void main(String[] args) {
    items();
    receptacles();
    theLastReceptacle();
    openEmptyAtPlaceZero();
    inOneAtMost();
    inOneAtMostThoughFound();
    onlyInAGreaterKind();
    roomForTwelve();
    inTheOrderInWhichTheyCame();
    atPlaceZeroIfNeverInOne();
    itemWeighs();
    receptacleWeighs();
    Check.end();
  }

  private static void items() {
    Check.sentence("ITEMS 1 .. 999");
    BagRows x = Check.withKinds(0);
    int[] items = {1, 2, 500, 998, 999};
    int[] none = {0, -1, 1000};
    for (int item : items) {
      Check.into(x, 1001, item);
    }
    for (int number : none) {
      Check.due("into(1001, " + number + ")", x.into(1001, number), BagRows.UNKNOWN);
      Check.due("inside(" + number + ")", x.inside(number), BagRows.UNKNOWN);
    }
    Check.holdsInOrder(x, 1001, items);
  }

  private static void receptacles() {
    Check.sentence("RECEPTACLES 1001, 1002, .. (60 at most)");
    BagRows x = new BagRows();
    Check.due("place(1000)", x.place(1000), BagRows.UNKNOWN);
    for (int number = 1001; number <= 1060; number++) {
      Check.due("place(" + number + ") before bag", x.place(number), BagRows.UNKNOWN);
      Check.due("bag(1)", x.bag(1), number);
      Check.due("place(" + number + ")", x.place(number), 0);
    }
    Check.due("bag(1) of 61", x.bag(1), BagRows.ROOM);
    Check.due("place(1061)", x.place(1061), BagRows.UNKNOWN);
  }

  private static void theLastReceptacle() {
    Check.sentence("60 at most, of which the last is as good as the others");
    BagRows x = new BagRows();
    for (int i = 1; i <= 60; i++) {
      Check.due("bag", x.bag(i == 60 ? 2 : i % 2), 1000 + i);
    }
    Check.into(x, 1060, 999, 1059, 1058);
    Check.due("inside(1059)", x.inside(1059), 1060);
    Check.weighs(x, 1060, 300 + 495 + 200 + 100);
    Check.bring(x, 1060, 2, 7);
    Check.due("place(1060)", x.place(1060), 7);
    Check.due("place(999)", x.place(999), 7);
    Check.due("place(1059)", x.place(1059), 7);
    BagRows y = new BagRows();
    for (int i = 1; i <= 60; i++) {
      Check.due("bag", y.bag(i == 60 ? 2 : 3), 1000 + i);
    }
    Check.into(y, 1059, 1060);
    Check.due("inside(1060)", y.inside(1060), 1059);
    Check.due("into(1058, 1060), which lies in one", y.into(1058, 1060), BagRows.STATE);
    Check.due("take(1060)", y.take(1060), 1059);
    Check.due("inside(1060)", y.inside(1060), 0);
  }

  private static void openEmptyAtPlaceZero() {
    Check.sentence("open and empty at first, at PLACE 0");
    for (int kind = 0; kind <= 3; kind++) {
      BagRows x = Check.withKinds(kind);
      Check.due("place(1001)", x.place(1001), 0);
      Check.due("open(1001, ..)", x.open(1001, 1, 1, kind < 2 ? -1 : 2), BagRows.STATE);
      Check.holdsInOrder(x, 1001);
    }
  }

  private static void inOneAtMost() {
    Check.sentence("A thing lies in one receptacle at most");
    BagRows x = Check.withKinds(1, 1, 0);
    Check.into(x, 1001, 5, 1003);
    Check.due("into(1002, 5)", x.into(1002, 5), BagRows.STATE);
    Check.due("into(1002, 1003)", x.into(1002, 1003), BagRows.STATE);
    Check.due("take(5)", x.take(5), 1001);
    Check.due("into(1002, 5), taken out", x.into(1002, 5), 1);
    Check.holdsInOrder(x, 1001, 1003);
    Check.holdsInOrder(x, 1002, 5);
  }

  private static void inOneAtMostThoughFound() {
    Check.sentence("A thing lies in one receptacle at most, and an extra one where it was found");
    BagRows x = Check.withKinds(1, 1, 0);
    Check.into(x, 1001, 5, 1003, 6);
    Check.close(x, 1001);
    Check.reopen(x, 1002, 1);
    Check.due("found(1002, 1003)", x.found(1002, 1003), 0);
    Check.due("found(1002, 5)", x.found(1002, 5), 0);
    Check.due("move(1001, 0): itself and 6", x.move(1001, 0), 2);
    Check.due("document(1001, 0), the list stays", x.document(1001, 0), 5);
    Check.weighs(x, 1001, 265);
    Check.weighs(x, 1002, 355);
    Check.open(x, 1001, 1);
    Check.due("the first that is missing", x.differ(1001, 2, 1), 5);
    Check.holdsInOrder(x, 1001, 6);
    Check.holdsInOrder(x, 1002, 1003, 5);
  }

  private static void onlyInAGreaterKind() {
    Check.sentence("receptacles lie only in such of a greater kind");
    BagRows x = Check.withKinds(0, 1, 2, 3, 0, 1, 2, 3);
    for (int bag = 1001; bag <= 1004; bag++) {
      Check.due("into(" + bag + ", " + (bag + 4) + "), the same kind", x.into(bag, bag + 4),
          BagRows.STATE);
      Check.due("into(1001, " + bag + ")", x.into(1001, bag), BagRows.STATE);
    }
    Check.due("into(1003, 1004), one greater", x.into(1003, 1004), BagRows.STATE);
    Check.due("into(1004, 1003), one less", x.into(1004, 1003), 1);
    Check.due("into(1004, 1001), three less", x.into(1004, 1001), 1);
  }

  private static void roomForTwelve() {
    Check.sentence("A receptacle has room for 12 things");
    BagRows x = Check.withKinds(0, 1);
    Check.fill(x, 1001, 1, 12);
    Check.due("into(1001, 13)", x.into(1001, 13), BagRows.ROOM);
    Check.into(x, 1002, 1001);
    // What lies in 1001 takes no room in 1002.
    Check.fill(x, 1002, 13, 23);
    Check.due("into(1002, 24)", x.into(1002, 24), BagRows.ROOM);
    Check.due("close(1001)", x.close(1001, 1, 0), 12);
    Check.due("close(1002)", x.close(1002, 1, 0), 12);
  }

  private static void inTheOrderInWhichTheyCame() {
    Check.sentence("in the order in which they came");
    BagRows x = Check.withKinds(1, 0);
    Check.into(x, 1001, 9, 3, 1002, 7);
    Check.due("take(9), the first", x.take(9), 1001);
    Check.due("take(1002), the middle", x.take(1002), 1001);
    Check.due("take(7), the last", x.take(7), 1001);
    Check.into(x, 1001, 1002, 9);
    Check.holdsInOrder(x, 1001, 3, 1002, 9);
    Check.open(x, 1001, 1);
    Check.due("found(1001, 1), an extra one", x.found(1001, 1), 0);
    Check.into(x, 1001, 7);
    Check.holdsInOrder(x, 1001, 3, 1002, 9, 1, 7);
  }

  private static void atPlaceZeroIfNeverInOne() {
    Check.sentence("items at place 0, if they never lay in one");
    BagRows x = Check.withKinds(0);
    Check.bring(x, 1001, 0, 5);
    int[] items = {1, 2, 998, 999};
    for (int item : items) {
      Check.due("place(" + item + ")", x.place(item), 0);
      Check.due("into(1001, " + item + "), which is at 5", x.into(1001, item), BagRows.STATE);
    }
  }

  private static void itemWeighs() {
    Check.sentence("An item weighs 5 and 10 times the rest of its number by 50");
    int[] items = {1, 2, 49, 50, 51, 99, 100, 101, 949, 950, 951, 999};
    int[] weights = {15, 25, 495, 5, 15, 495, 5, 15, 495, 5, 15, 495};
    for (int i = 0; i < items.length; i++) {
      BagRows x = Check.withKinds(0);
      Check.into(x, 1001, items[i]);
      Check.weighs(x, 1001, 100 + weights[i]);
      Check.due("take(" + items[i] + ")", x.take(items[i]), 1001);
      Check.weighs(x, 1001, 100);
    }
  }

  private static void receptacleWeighs() {
    Check.sentence("a receptacle 100 times its kind and 100, and all that lies in it");
    BagRows x = Check.withKinds(0, 1, 2, 3, 0);
    for (int kind = 0; kind <= 3; kind++) {
      Check.weighs(x, 1001 + kind, 100 * kind + 100);
    }
    Check.into(x, 1001, 4);
    Check.into(x, 1002, 1001, 3);
    Check.into(x, 1003, 1002, 1005);
    Check.into(x, 1004, 1003);
    Check.weighs(x, 1001, 145);
    Check.weighs(x, 1002, 380);
    Check.weighs(x, 1003, 780);
    Check.weighs(x, 1004, 1180);
    Check.weighs(x, 1005, 100);
  }
}
