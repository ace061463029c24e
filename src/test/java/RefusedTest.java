/** Promise 5: X, and what a step answers for every word there is. */
public final class RefusedTest {
  private static final Checks checks = new Checks("RefusedTest");
  private static final int X = 0x0480;
  private static final int UNKNOWN = 0x0C00;

  public static void main(String[] args) {
    everyWordIsAnswered();
    executed();
    executedAsIts();
    refusedChangesNothing();
    refusedThroughAPointerToItself();
    checks.end();
  }

  private static boolean isKnown(int code) {
    if (code < 0x0200 || code >= 0x0780 && code < 0x0800 || code >= 0x0C00 && code < 0x1000) {
      return false;
    }
    // 0320h .. 032Fh has no meaning, nor has what has bit 4 below 0400h.
    return code >= 0x0400 || (code & 0x10) == 0 && (code & 0xFFF0) != 0x0320;
  }

  private static void everyWordIsAnswered() {
    for (int code = 0; code < 0x10000; code++) {
      boolean isX = (code & 0xFFC0) == X;
      boolean isIdle = (code & 0xFFF0) == 0x0340;
      int due = !isKnown(code) ? 2 : isIdle ? 1 : 0;
      if (!isX) {
        answered(code, due);
      }
      answeredUnderX(code, isX ? 3 : due);
    }
  }

  private static void answered(int code, int due) {
    WorkspaceMachine x = new WorkspaceMachine();
    x.poke(0, (char) code);
    checks.same("step() at " + Integer.toHexString(code) + "h", x.step(), due);
    checks.same("state(4) after " + Integer.toHexString(code) + "h", x.state(4), due == 1 ? 1 : 0);
  }

  private static void answeredUnderX(int code, int due) {
    WorkspaceMachine x = new WorkspaceMachine();
    x.poke(0, (char) (X | Code.operand(Code.INDEXED, 0)));
    x.poke(2, (char) 100);
    x.poke(100, (char) code);
    checks.same("step() at X of " + Integer.toHexString(code) + "h", x.step(), due);
  }

  private static void executed() {
    new Bench(checks, "X of Rn").register(1, Code.one(6, 2)).register(2, 5).program(X | 1)
        .run(0).hasRegister(2, 6).hasCounter(258).hasStatus(0xC000);
    new Bench(checks, "X of a word at a growing Rn").register(1, 300).word(300, Code.one(6, 2))
        .program(X | Code.operand(Code.GROWING, 1)).run(0).hasRegister(2, 1).hasRegister(1, 302).hasCounter(258);
    new Bench(checks, "X of IDLE").register(1, 0x0340).program(X | 1).run(1, 1).hasState(4, 1).hasCounter(258);
    new Bench(checks, "X of a word at the next word").word(300, Code.one(6, 2))
        .program(X | Code.operand(Code.INDEXED, 0), 300).run(0).hasRegister(2, 1).hasCounter(260);
  }

  /** What an X does has its own words behind those of the X, and goes from there. */
  private static void executedAsIts() {
    new Bench(checks, "X with words").word(300, Code.immediate(0, 2))
        .program(X | Code.operand(Code.INDEXED, 0), 300, 0x1234).run(0).hasRegister(2, 0x1234).hasCounter(262);
    new Bench(checks, "X of a jump").register(1, Code.near(0x10, 3)).program(X | 1).run(0).hasCounter(264);
    new Bench(checks, "X of a link").register(1, Code.one(10, Code.operand(Code.INDEXED, 0))).program(X | 1, 300)
        .run(0).hasCounter(300).hasRegister(11, 260);
    int r1 = Bench.registerAddress(1);
    // R1 points to itself and has grown before it is read: 0204h, R4 becomes the next word.
    new Bench(checks, "X of the register that grows").register(1, r1).program(X | Code.operand(Code.GROWING, 1), 77)
        .run(0).hasRegister(1, r1 + 2).hasRegister(4, 77).hasRegister(2, 0).hasCounter(260);
  }

  private static void refused(String name, int due, int code, int kind, int n, int inner) {
    new Bench(checks, name).status(0xFFFF).register(5, 301).register(0, inner).register(6, inner).word(300, inner)
        .word(302, inner).program(code | Code.operand(kind, n), 300, 0x1234).run(due, due).hasCounter(256)
        .hasStatus(0xFFFF).hasRegister(5, 301).hasRegister(0, inner).hasRegister(6, inner).hasWord(300, inner)
        .hasState(4, 0).hasWorkspace(512);
  }

  private static void refusedChangesNothing() {
    for (int inner : new int[] {UNKNOWN, 0, 0x0320, 0x0210, 0x0780, 0x0FFF}) {
      refused("X of no instruction", 2, X, Code.DIRECT, 6, inner);
      refused("X of no instruction", 2, X, Code.INDIRECT, 5, inner);
      refused("X of no instruction", 2, X, Code.INDEXED, 0, inner);
      refused("X of no instruction", 2, X, Code.GROWING, 5, inner);
      refused("no instruction", 2, inner, 0, 0, 0x1234);
    }
    for (int inner : new int[] {X, X | Code.operand(Code.GROWING, 5), X | 0x3F}) {
      refused("X of an X", 3, X, Code.DIRECT, 6, inner);
      refused("X of an X", 3, X, Code.INDIRECT, 5, inner);
      refused("X of an X", 3, X, Code.INDEXED, 0, inner);
      refused("X of an X", 3, X, Code.GROWING, 5, inner);
    }
  }

  private static void refusedThroughAPointerToItself() {
    // With WP 0, R1 lies at 2; it says 2 and grows, so that 0004h would have to be done.
    WorkspaceMachine x = new WorkspaceMachine();
    x.poke(0, (char) (X | Code.operand(Code.GROWING, 1)));
    x.poke(2, (char) 2);
    checks.same("X through a pointer to itself", x.step(), 2);
    checks.same("the pointer", x.peek(2), 2);
    checks.same("PC", x.state(1), 0);
  }
}
