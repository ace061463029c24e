/** Promise 5 and all others on strange programs: nothing is thrown, and the state stays what it may be. */
public final class StrangeRunsTest {
  private static final Checks checks = new Checks("StrangeRunsTest");
  private static final int RUNS = 20000;
  private static int seed = 12345;

  public static void main(String[] args) {
    for (int run = 0; run < RUNS; run++) {
      strangeRun(run);
    }
    checks.end();
  }

  /** The same numbers every time. */
  private static int next(int bound) {
    seed = seed * 1103515245 + 12345;
    return (seed >>> 8) % bound;
  }

  private static void strangeRun(int run) {
    // The counts below keep to the 512 calls that an object is used for.
    WorkspaceMachine x = new WorkspaceMachine();
    for (int i = 0; i < 100; i++) {
      x.poke(2 * next(512), (char) next(65536));
    }
    x.reset();
    boolean fine = true;
    for (int i = 0; i < 25; i++) {
      if (next(8) == 0) {
        x.level(next(17));
      }
      if (next(4) == 0) {
        x.poke(x.state(1), (char) next(65536));
      }
      fine = fine && stepIsFine(x);
    }
    checks.holds("run " + run, fine);
  }

  private static boolean stepIsFine(WorkspaceMachine x) {
    int workspace = x.state(0);
    int counter = x.state(1);
    int status = x.state(2);
    int answer = x.step();
    boolean stays = x.state(0) == workspace && x.state(1) == counter && x.state(2) == status;
    boolean isEven = ((x.state(0) | x.state(1)) & ~1022) == 0;
    boolean isWord = (x.state(2) & ~0xFFFF) == 0;
    boolean isAnswer = answer >= 0 && answer <= 3 && (answer == 1) == (x.state(4) == 1);
    return isEven && isWord && isAnswer && (answer < 2 || stays);
  }
}
