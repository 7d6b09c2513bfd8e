/** One call of the face with its arguments, so that it can be made on several objects. */
final class Call {
  private static final String[] NAMES = {
    "bag", "into", "take", "close", "open", "found", "differ", "inside", "weight", "document",
    "move", "place", "tick"
  };
  static final int METHODS = NAMES.length;

  final int method;
  private final int a;
  private final int b;
  private final int c;
  private final long big;

  private Call(int method, int a, int b, int c, long big) {
    this.method = method;
    this.a = a;
    this.b = b;
    this.c = c;
    this.big = big;
  }

  static Call of(int method, int a, int b, int c, long big) {
    return new Call(method, a, b, c, big);
  }

  /** A call such as a post would make, now and then with strange numbers. */
  static Call any(Numbers numbers, int bags, int items, long time) {
    int[] often = {1, 1, 1, 2, 2, 3, 3, 3, 4, 4, 4, 5, 5, 5, 5, 6, 6, 7, 8, 8, 9, 10, 10, 11, 12};
    int method = often[numbers.below(often.length)];
    int bag = numbers.mostly(1001, 1000 + bags);
    int thing = numbers.below(4) == 0 ? numbers.mostly(1001, 1000 + bags) : numbers.mostly(1, items);
    switch (method) {
      case 1:
      case 5:
        return of(method, bag, thing, 0, 0);
      case 2:
      case 7:
      case 11:
        return of(method, thing, 0, 0, 0);
      case 3:
        return of(method, bag, numbers.mostly(0, 2), 0, numbers.mostly(1, 2));
      case 4:
        return of(method, bag, numbers.mostly(0, 3), numbers.mostly(-1, 2), numbers.mostly(1, 2));
      case 6:
        return of(method, bag, numbers.mostly(0, 12), numbers.mostly(0, 1), 0);
      case 8:
        return of(method, bag, 0, 0, numbers.mostly(0, 30) * 50L);
      case 9:
        return of(method, bag, numbers.mostly(0, 4), 0, 0);
      case 10:
        return of(method, bag, numbers.mostly(0, 2), 0, 0);
      default:
        return of(12, 0, 0, 0, time + numbers.mostly(0, 70));
    }
  }

  int on(BagRows x) {
    switch (method) {
      case 0: return x.bag(a);
      case 1: return x.into(a, b);
      case 2: return x.take(a);
      case 3: return x.close(a, big, b);
      case 4: return x.open(a, big, b, c);
      case 5: return x.found(a, b);
      case 6: return x.differ(a, b, c);
      case 7: return x.inside(a);
      case 8: return x.weight(a, big);
      case 9: return x.document(a, b);
      case 10: return x.move(a, b);
      case 11: return x.place(a);
      default: return x.tick(big);
    }
  }

  int on(PlainModel x) {
    switch (method) {
      case 0: return x.bag(a);
      case 1: return x.into(a, b);
      case 2: return x.take(a);
      case 3: return x.close(a, big, b);
      case 4: return x.open(a, big, b, c);
      case 5: return x.found(a, b);
      case 6: return x.differ(a, b, c);
      case 7: return x.inside(a);
      case 8: return x.weight(a, big);
      case 9: return x.document(a, b);
      case 10: return x.move(a, b);
      case 11: return x.place(a);
      default: return x.tick(big);
    }
  }

  /** The time that is set when this call has answered so. */
  long timeAfter(int answer, long time) {
    return method == 12 && answer >= 0 ? big : time;
  }

  @Override
  public String toString() {
    return NAMES[method] + " with " + a + ", " + b + ", " + c + " and " + big;
  }
}
