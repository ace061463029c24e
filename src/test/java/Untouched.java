import java.util.function.Supplier;

/**
 * Asks whether a step changes nothing at all. One object is used for at most 512 calls, too few to ask for
 * every word, so the same machine is made once for each part of the memory, and once more without the step.
 */
final class Untouched {
  private static final int PART = 256;

  private Untouched() {}

  static void check(Checks checks, String name, int answer, Supplier<Bench> made) {
    for (int first = 0; first < 1024; first += PART) {
      Bench before = made.get();
      Bench after = made.get().run(answer);
      boolean same = true;
      for (int address = first; address < first + PART; address += 2) {
        same = same && before.machine.peek(address) == after.machine.peek(address);
      }
      checks.holds(name + ": words from " + first + " on stay", same);
    }
    WorkspaceMachine before = made.get().machine;
    WorkspaceMachine after = made.get().run(answer).machine;
    for (int what = 0; what < 5; what++) {
      checks.same(name + ": state(" + what + ")", after.state(what), before.state(what));
    }
    boolean same = true;
    for (int line = 0; line < 64; line++) {
      same = same && before.line(line) == after.line(line);
    }
    checks.holds(name + ": lines stay", same);
  }
}
