import java.util.ArrayList;
import java.util.List;

/** Long runs of calls, each answered by the program as by the plain model. */
public final class ModelRunsTest {
  private static final int RUNS = 3000;
  private static final int CALLS = 512;
  private static final int[] REFUSALS = {
    BagRows.UNKNOWN, BagRows.OUTSIDE, BagRows.STATE, BagRows.ROOM
  };
  /** By method: how often it was refused in each way, and at the end how often it was not. */
  private static final int[][] ANSWERED = new int[Call.METHODS][REFUSALS.length + 1];

  public static void main(String[] args) {
    for (int run = 0; run < RUNS && Check.wrongSoFar() == 0; run++) {
      likeTheModel(run);
    }
    everyAnswerCame();
    Check.end();
  }

  private static List<Call> calls(BagRows x, PlainModel model, int run) {
    Numbers numbers = new Numbers(run);
    int bags = numbers.from(2, 8);
    int items = numbers.from(3, run % 3 == 0 ? 60 : 15);
    List<Call> made = new ArrayList<>();
    long time = 0;
    for (int i = 0; i < CALLS; i++) {
      Call call = i < bags ? Call.of(0, numbers.mostly(0, 3), 0, 0, 0)
          : Call.any(numbers, bags, items, time);
      int want = call.on(model);
      int got = call.on(x);
      Check.due("run " + run + ", call " + i + ": " + call, got, want);
      tally(call.method, want);
      time = call.timeAfter(want, time);
      made.add(call);
    }
    return made;
  }

  private static void likeTheModel(int run) {
    List<Call> made = calls(new BagRows(), new PlainModel(), run);
    refusedChangeNothing(made, run);
  }

  /** Without the calls that were refused, all the others answer the same. */
  private static void refusedChangeNothing(List<Call> made, int run) {
    BagRows all = new BagRows();
    BagRows accepted = new BagRows();
    for (int i = 0; i < made.size(); i++) {
      int answer = made.get(i).on(all);
      if (!isRefusal(answer)) {
        Check.due("run " + run + " without what is refused, call " + i + ": " + made.get(i),
            made.get(i).on(accepted), answer);
      }
    }
  }

  private static boolean isRefusal(int answer) {
    return answer <= BagRows.UNKNOWN && answer >= BagRows.ROOM;
  }

  private static void tally(int method, int answer) {
    int column = REFUSALS.length;
    for (int i = 0; i < REFUSALS.length; i++) {
      column = REFUSALS[i] == answer ? i : column;
    }
    ANSWERED[method][column]++;
  }

  /** The runs are of use only if they reach every refusal that the document names. */
  private static void everyAnswerCame() {
    String[] refusedBy = {"o", "usr", "us", "uos", "uos", "usr", "uos", "u", "uo", "u", "uos", "u", "o"};
    String letters = "uosr";
    for (int method = 0; method < Call.METHODS; method++) {
      for (int i = 0; i < letters.length(); i++) {
        boolean named = refusedBy[method].indexOf(letters.charAt(i)) >= 0;
        Check.holds("method " + method + " is refused with " + REFUSALS[i] + ": " + named,
            named == ANSWERED[method][i] > 0);
      }
      Check.holds("method " + method + " is not always refused",
          ANSWERED[method][REFUSALS.length] > 0);
    }
  }
}
