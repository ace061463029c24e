/** Promise 1: a new object; promise 9: state. */
public final class NewObjectTest {
  private static final Checks checks = new Checks("NewObjectTest");

  public static void main(String[] args) {
    memoryIsZero();
    linesAreZero();
    stateIsTold();
    objectsAreApart();
    checks.end();
  }

  private static void memoryIsZero() {
    // Two objects, since one is used for at most 512 calls.
    WorkspaceMachine low = new WorkspaceMachine();
    WorkspaceMachine high = new WorkspaceMachine();
    for (int address = 0; address < 512; address += 2) {
      checks.same("peek(" + address + ")", low.peek(address), 0);
      checks.same("peek(" + (address + 512) + ")", high.peek(address + 512), 0);
    }
  }

  private static void linesAreZero() {
    WorkspaceMachine x = new WorkspaceMachine();
    for (int line = 0; line < 64; line++) {
      checks.holds("line(" + line + ") is 0", !x.line(line));
    }
  }

  private static void stateIsTold() {
    WorkspaceMachine x = new WorkspaceMachine();
    int[] due = {0, 0, 0, 16, 0};
    for (int what = 0; what < due.length; what++) {
      checks.same("state(" + what + ")", x.state(what), due[what]);
    }
    for (int what : new int[] {-1, 5, 6, 256, Integer.MIN_VALUE, Integer.MAX_VALUE}) {
      checks.refuses("state(" + what + ")", () -> x.state(what));
    }
    new Bench(checks, "state after IDLE").status(0xABF5).program(0x0340).run(1)
        .hasWorkspace(512).hasCounter(258).hasStatus(0xABF5).hasState(3, 16).hasState(4, 1);
  }

  private static void objectsAreApart() {
    WorkspaceMachine x = new WorkspaceMachine();
    WorkspaceMachine y = new WorkspaceMachine();
    x.poke(10, (char) 7);
    x.wire(3, true);
    x.level(2);
    checks.same("peek(10) of another object", y.peek(10), 0);
    checks.holds("line(3) of another object", !y.line(3));
    checks.same("state(3) of another object", y.state(3), 16);
  }
}
