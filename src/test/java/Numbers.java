/** A fixed row of numbers without order: the same in every run of the tests. */
final class Numbers {
  private static final int[] STRANGE = {
    Integer.MIN_VALUE, Integer.MAX_VALUE, -1001, -14, -2, -1, 0, 13, 50, 999, 1000, 1061, 1000000001
  };
  private long state;

  Numbers(long start) {
    state = start;
  }

  /** 0 .. many - 1. */
  int below(int many) {
    state = state * 6364136223846793005L + 1442695040888963407L;
    return (int) ((state >>> 33) % many);
  }

  /** low .. high. */
  int from(int low, int high) {
    return low + below(high - low + 1);
  }

  /** Mostly low .. high, now and then a number that few calls expect. */
  int mostly(int low, int high) {
    return below(40) == 0 ? STRANGE[below(STRANGE.length)] : from(low, high);
  }
}
