/** No argument and no number of calls, not even beyond the promised 512, makes a call throw. */
public final class StrangeNumbersTest {
  private static final int[] INTS = {
    Integer.MIN_VALUE, Integer.MIN_VALUE + 1, -1061, -1001, -14, -1, 0, 1, 2, 12, 49, 50, 60, 999,
    1000, 1001, 1002, 1060, 1061, 1062, Integer.MAX_VALUE - 1, Integer.MAX_VALUE
  };
  private static final long[] LONGS = {
    Long.MIN_VALUE, Integer.MIN_VALUE, -1, 0, 1, 2, 1000000000L, 1000000001L, 1000000000000L,
    1000000000001L, Long.MAX_VALUE
  };

  public static void main(String[] args) {
    everyArgument();
    manyCalls();
    Check.end();
  }

  private static void everyArgument() {
    BagRows x = Check.withKinds(0, 3);
    for (int a : INTS) {
      for (int b : INTS) {
        for (int method = 0; method < Call.METHODS; method++) {
          for (long big : LONGS) {
            Call.of(method, a, b, 1, big).on(x);
          }
        }
      }
    }
  }

  private static void manyCalls() {
    Numbers numbers = new Numbers(5);
    BagRows x = new BagRows();
    long time = 0;
    for (int i = 0; i < 200000; i++) {
      Call call = i % 5 == 0 ? Call.of(0, numbers.below(5), 0, 0, 0)
          : Call.any(numbers, 60, 999, time);
      time = call.timeAfter(call.on(x), time);
    }
    for (int i = 0; i < 20000; i++) {
      x.weight(1001, 0);
    }
  }
}
