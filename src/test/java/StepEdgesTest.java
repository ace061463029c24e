/** The edges of "Terms", fourth paragraph: a step and a switch. */
public final class StepEdgesTest {
  private static final Checks checks = new Checks("StepEdgesTest");
  private static final int X = 0x0480;
  private static final int IDLE = 0x0340;
  private static final int NOTHING = 0x03A0;
  private static final int RETURN = 0x0380;

  public static void main(String[] args) {
    everyLevelAgainstEveryMask();
    levelsSwitchThroughTheirWords();
    masksAfterLevels();
    levelsEndIdle();
    levelsGoBeforeWhatIsFetched();
    idleAnswersOne();
    fetchedAtBothEnds();
    answersAtTheEndsOfWhatIsKnown();
    unknownChangesNothing();
    executedUnknownChangesNothing();
    executedExecuteChangesNothing();
    onlyOneExecuteIsFollowed();
    refusedStepsCanBeMended();
    switchesReadFirst();
    switchesKeepWhatWas();
    checks.end();
  }

  private static Bench bench(String name) {
    return new Bench(checks, name);
  }

  private static void everyLevelAgainstEveryMask() {
    checks.sentence("if the LEVEL that is requested is not above the mask: a SWITCH");
    for (int mask = 0; mask < 16; mask++) {
      for (int l = 0; l <= 16; l++) {
        Bench b = bench("level " + l + " against mask " + mask).status(mask).program(NOTHING);
        b.word(4 * l, 800).word(4 * l + 2, 90).machine.level(l);
        boolean taken = l <= mask;
        b.run(0).hasWorkspace(taken ? 800 : 512).hasCounter(taken ? 90 : 258);
        b.hasState(3, l);
      }
    }
  }

  private static void levelsSwitchThroughTheirWords() {
    checks.sentence("a SWITCH through 4 * level");
    for (int l = 0; l < 16; l++) {
      // Only the words at 4 * l and behind it lead there: all others lead elsewhere.
      Bench b = bench("level " + l).status(0x9A5F);
      for (int other = 0; other < 64; other += 2) {
        b.word(other, 0x0200 + 2 * other);
      }
      b.word(4 * l, 900).word(4 * l + 2, 700).machine.level(l);
      b.run(0).hasWorkspace(900).hasCounter(700).hasWord(926, 512).hasWord(928, 256).hasWord(930, 0x9A5F);
    }
  }

  private static void masksAfterLevels() {
    checks.sentence("the mask becomes the level less 1 (0 for 0)");
    int[][] rows = {{0, 0, 0}, {0, 1, 0}, {0, 15, 0}, {1, 1, 0}, {1, 15, 0}, {2, 2, 1}, {2, 15, 1}, {15, 15, 14}};
    for (int[] row : rows) {
      Bench b = bench("level " + row[0] + " under mask " + row[1]).word(4 * row[0], 800).word(4 * row[0] + 2, 90)
          .status(0xFFF0 | row[1]);
      b.machine.level(row[0]);
      b.run(0).hasStatus(0xFFF0 | row[2]).hasWord(830, 0xFFF0 | row[1]);
    }
    Bench again = bench("level 15 holds itself back").word(60, 800).word(62, 90).word(90, NOTHING).status(15);
    again.machine.level(15);
    again.run(0).hasStatus(14).run(0).hasCounter(92).hasStatus(14).hasWorkspace(800);
    Bench zero = bench("level 0 does not").word(0, 800).word(2, 90).word(90, NOTHING).status(0);
    zero.machine.level(0);
    zero.run(0, 0).hasCounter(90).hasWord(826, 800).hasWord(828, 90);
    Bench two = bench("a lower level goes through").word(8, 800).word(10, 90).word(4, 900).word(6, 94).status(2);
    two.machine.level(2);
    two.run(0).hasStatus(1).machine.level(1);
    two.run(0).hasStatus(0).hasWorkspace(900).hasCounter(94).hasWord(926, 800).hasWord(928, 90).hasWord(930, 1);
  }

  private static void levelsEndIdle() {
    checks.sentence("it is not IDLE any more: 0");
    for (int l : new int[] {0, 1, 15}) {
      Bench b = bench("level " + l + " ends IDLE").status(15).program(IDLE).word(4 * l, 800).word(4 * l + 2, 90)
          .word(90, NOTHING).run(1, 1).hasState(4, 1);
      b.machine.level(l);
      b.run(0).hasState(4, 0).hasWorkspace(800).hasWord(828, 258).machine.level(16);
      b.run(0).hasState(4, 0).hasCounter(92);
    }
    Bench back = bench("back behind the IDLE").status(15).program(IDLE, NOTHING).word(60, 800).word(62, 90)
        .word(90, RETURN).run(1);
    back.machine.level(15);
    back.run(0).machine.level(16);
    back.run(0).hasCounter(258).hasState(4, 0).run(0).hasCounter(260);
  }

  private static void levelsGoBeforeWhatIsFetched() {
    checks.sentence("Otherwise the word at PC is fetched");
    Bench unknown = bench("a level before no instruction").program(0).word(0, 800).word(2, 90);
    unknown.machine.level(0);
    unknown.run(0).hasWorkspace(800).hasWord(828, 256);
    Bench idle = bench("a level before an IDLE").program(IDLE).word(0, 800).word(2, 90);
    idle.machine.level(0);
    idle.run(0).hasState(4, 0).hasWord(828, 256);
    Bench later = bench("a level that the instruction lets through waits for the next step").status(2)
        .program(Code.immediate(8, 0), 3).word(12, 800).word(14, 90);
    later.machine.level(3);
    later.run(0).hasWorkspace(512).hasStatus(3).run(0).hasWorkspace(800).hasStatus(2).hasWord(828, 260);
    Bench none = bench("none requested any more").status(15).program(NOTHING).word(20, 800);
    none.machine.level(5);
    none.machine.level(16);
    none.run(0).hasWorkspace(512).hasCounter(258);
  }

  private static void idleAnswersOne() {
    checks.sentence("Otherwise, if IDLE: 1.");
    Bench b = bench("IDLE").status(0xFFF3).program(IDLE, Code.immediate(0, 1), 7).word(16, 800)
        .run(1, 1, 1).hasCounter(258).hasRegister(1, 0).hasStatus(0xFFF3);
    b.machine.level(4);
    b.run(1, 1).hasWorkspace(512).hasState(4, 1).hasCounter(258);
    Bench moved = bench("nor does a new word wake it").program(IDLE).run(1).program(NOTHING, NOTHING);
    moved.run(1).hasState(4, 1).machine.reset();
    moved.hasState(4, 0);
    Untouched.check(checks, "a step of an IDLE", 1, () -> bench("IDLE again").status(0x8001).program(IDLE).run(1));
  }

  private static void fetchedAtBothEnds() {
    checks.sentence("the word at PC is fetched, PC grows by 2");
    bench("at 0").word(0, NOTHING).program(Code.one(1, Code.operand(Code.INDEXED, 0)), 0).run(0, 0).hasCounter(2);
    bench("at 1022").word(1022, NOTHING).program(Code.one(1, Code.operand(Code.INDEXED, 0)), 1022)
        .run(0, 0).hasCounter(0);
    bench("none at 1022").program(Code.one(1, Code.operand(Code.INDEXED, 0)), 1022).run(0, 2, 2).hasCounter(1022);
  }

  private static void answersAtTheEndsOfWhatIsKnown() {
    checks.sentence("1 for IDLE; 2 when it is none of these, 3 for an X of an X");
    int[][] rows = {
      {0x0000, 2}, {0x0001, 2}, {0x01FF, 2}, {0x0200, 0}, {0x020F, 0}, {0x0210, 2}, {0x021F, 2}, {0x0220, 0},
      {0x030F, 0}, {0x0310, 2}, {0x031F, 2}, {0x0320, 2}, {0x032F, 2}, {0x033F, 2}, {0x0340, 1}, {0x034F, 1},
      {0x0350, 2}, {0x035F, 2}, {0x0360, 0}, {0x036F, 0}, {0x0370, 2}, {0x0380, 0}, {0x03E0, 0}, {0x03EF, 0},
      {0x03F0, 2}, {0x03FF, 2}, {0x0400, 0}, {0x047F, 0}, {0x04C0, 0}, {0x073F, 0}, {0x0740, 0}, {0x077F, 0},
      {0x0780, 2}, {0x07BF, 2}, {0x07C0, 2}, {0x07FF, 2}, {0x0800, 0}, {0x0BFF, 0}, {0x0C00, 2}, {0x0FFF, 2},
      {0x1000, 0}, {0x1CFF, 0}, {0x1D00, 0}, {0x1FFF, 0}, {0x2000, 0}, {0x3FFF, 0}, {0x4000, 0}, {0xFFFF, 0},
      {0x7FFF, 0}, {0x8000, 0},
    };
    for (int[] row : rows) {
      String name = Integer.toHexString(row[0]) + "h";
      bench(name).program(row[0]).run(row[1]).hasState(4, row[1] == 1 ? 1 : 0);
      bench("X of " + name).register(1, row[0]).program(X | 1).run(row[1]).hasState(4, row[1] == 1 ? 1 : 0);
    }
    for (int code : new int[] {X, X | 0x0F, X | 0x10, X | 0x3F}) {
      bench("X of " + Integer.toHexString(code) + "h").register(1, code).program(X | 1).run(3);
    }
  }

  /** A machine in which every part of the state is something. */
  private static Bench full(String name, int... words) {
    Bench b = bench(name).wires(0, "1011").wires(60, "1101").status(0xFFF6).word(300, 0x1234).word(302, 0x5678);
    for (int n = 0; n < 17; n++) {
      b.register(n, 0x1111 + n);
    }
    b.program(words).machine.level(7);
    return b;
  }

  private static void unknownChangesNothing() {
    checks.sentence("for these two nothing changes");
    int[] unknown = {0x0000, 0x01FF, 0x0210, 0x0320, 0x032F, 0x03FF, 0x0780, 0x07FF, 0x0C00, 0x0FFF};
    for (int code : unknown) {
      String name = Integer.toHexString(code) + "h";
      Untouched.check(checks, name, 2, () -> full(name, code, 300, 302));
    }
  }

  private static void executedUnknownChangesNothing() {
    checks.sentence("for these two nothing changes");
    for (int kind = 0; kind < 4; kind++) {
      for (int n : new int[] {0, 5, 15}) {
        int code = X | Code.operand(kind, n);
        String name = Integer.toHexString(code) + "h of no instruction";
        Untouched.check(checks, name, 2, () -> pointing(name, code, n, 0x0C00));
        Untouched.check(checks, name + " below 0200h", 2, () -> pointing(name, code, n, 0));
      }
    }
  }

  private static void executedExecuteChangesNothing() {
    checks.sentence("3 for an X of an X; for these two nothing changes");
    for (int kind = 0; kind < 4; kind++) {
      for (int n : new int[] {0, 5, 15}) {
        int code = X | Code.operand(kind, n);
        String name = Integer.toHexString(code) + "h of an X";
        for (int inner : new int[] {X, X | Code.operand(Code.INDEXED, 0), X | Code.operand(Code.GROWING, 5)}) {
          Untouched.check(checks, name, 3, () -> pointing(name, code, n, inner));
        }
      }
    }
  }

  /** The operand in the lowest bits of a code is the word given, whatever the kind. */
  private static Bench pointing(String name, int code, int n, int v) {
    boolean isIndexed = (code >> 4 & 3) == Code.INDEXED;
    boolean isDirect = (code >> 4 & 3) == Code.DIRECT;
    Bench b = full(name, code, isIndexed && n != 0 ? 0 : 301, 302).word(300, v);
    return b.register(n, isDirect ? v : 301);
  }

  private static void onlyOneExecuteIsFollowed() {
    checks.sentence("3 for an X of an X");
    // The inner X would be of an instruction, and of itself.
    bench("X of an X of an instruction").register(1, X | 2).register(2, NOTHING).program(X | 1).run(3, 3)
        .hasCounter(256);
    bench("X of itself").program(X | Code.operand(Code.INDEXED, 0), 256).run(3, 3).hasCounter(256);
    bench("X of an IDLE").register(1, IDLE).program(X | 1).run(1, 1).hasState(4, 1).hasCounter(258);
    bench("X of the first code behind those of X").register(1, 0x04C2).register(2, 5).program(X | 1)
        .run(0).hasRegister(2, 0);
    bench("X of the last code before those of X").register(1, 0x047F).register(15, 90).program(X | 1)
        .run(0).hasCounter(90).hasRegister(15, 92);
  }

  private static void refusedStepsCanBeMended() {
    checks.sentence("for these two nothing changes");
    bench("after no instruction").program(0).run(2, 2, 2).program(NOTHING).run(0).hasCounter(258);
    bench("after an X of an X").register(1, 300).word(300, X).program(X | Code.operand(Code.GROWING, 1)).run(3, 3)
        .word(300, NOTHING).run(0).hasRegister(1, 302).hasCounter(258);
    Bench level = bench("a level goes on").status(3).program(0).word(12, 800).word(14, 90).run(2);
    level.machine.level(3);
    level.run(0).hasWorkspace(800).hasWord(828, 256);
  }

  private static void switchesReadFirst() {
    checks.sentence("W is the word at v, N that at v + 2; then, in the workspace that begins at W, R13 becomes WP");
    int through = Code.one(0, Code.operand(Code.INDEXED, 0));
    // R13, R14 or R15 of the new workspace is the word that holds N, or W.
    for (int n = 13; n < 16; n++) {
      int workspace = 302 - 2 * n;
      bench("R" + n + " is N's word").status(0x4321).word(300, workspace).word(302, 90).program(through, 300)
          .run(0).hasWorkspace(workspace).hasCounter(90).hasWord(302, kept(n));
      bench("R" + n + " is W's word").status(0x4321).word(300, workspace - 2).word(302, 90).program(through, 300)
          .run(0).hasWorkspace(workspace - 2).hasCounter(90).hasWord(300, kept(n));
    }
  }

  private static int kept(int n) {
    return n == 13 ? 512 : n == 14 ? 260 : 0x4321;
  }

  private static void switchesKeepWhatWas() {
    checks.sentence("R13 becomes WP, R14 PC, R15 ST (as they were); WP becomes W, PC N.");
    int through = Code.one(0, Code.operand(Code.INDEXED, 0));
    bench("to the same workspace").status(0x4321).word(300, 512).word(302, 90).program(through, 300)
        .run(0).hasWorkspace(512).hasCounter(90).hasRegister(13, 512).hasRegister(14, 260).hasRegister(15, 0x4321);
    bench("to itself and back").status(0x4321).word(300, 512).word(302, 90).word(90, RETURN).program(through, 300)
        .run(0, 0).hasWorkspace(512).hasCounter(260).hasStatus(0x4321);
    bench("to a workspace that lies upon the old one").status(0x4321).word(300, 500).word(302, 90)
        .program(through, 300).run(0).hasWorkspace(500).hasWord(526, 512).hasWord(528, 260).hasWord(530, 0x4321);
    bench("other registers stay").word(300, 800).word(302, 90).word(800, 1).word(822, 2).word(824, 3).word(832, 4)
        .register(13, 5).register(14, 6).register(15, 7).program(through, 300).run(0).hasWord(800, 1).hasWord(822, 2)
        .hasWord(824, 3).hasWord(832, 4).hasRegister(13, 5).hasRegister(14, 6).hasRegister(15, 7).hasStatus(0);
    bench("PC is behind the operand's word").word(300, 800).word(302, 90).register(1, 300)
        .program(Code.one(0, Code.operand(Code.INDIRECT, 1))).run(0).hasWord(828, 258);
  }
}
