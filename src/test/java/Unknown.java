/** Numbers that no thing or no receptacle has, as long as there are fewer than fifty receptacles. */
final class Unknown {
  private static final int[] THINGS = {
    Integer.MIN_VALUE, Integer.MIN_VALUE + 1, -1001, -1, 0, 1000, 1050, 1060, 1061, 1062, 2001,
    Integer.MAX_VALUE
  };
  private static final int[] ITEMS = {1, 2, 500, 998, 999};

  private Unknown() {}

  static int[] things() {
    return THINGS.clone();
  }

  static int[] receptacles() {
    int[] all = new int[THINGS.length + ITEMS.length];
    System.arraycopy(THINGS, 0, all, 0, THINGS.length);
    System.arraycopy(ITEMS, 0, all, THINGS.length, ITEMS.length);
    return all;
  }
}
