/** The edges of "Terms", tenth paragraph: 0200h .. 03FFh. */
public final class ImmediateEdgesTest {
  private static final Checks checks = new Checks("ImmediateEdgesTest");
  private static final int[] BEFORE = {0x0000, 0xFFFF};
  private static final int RETURN = 0x0380;

  public static void main(String[] args) {
    firstAndLast();
    bitFour();
    theNextWord();
    results();
    registersBecomePointers();
    workspaces();
    masks();
    masksAgainstLevels();
    idle();
    returns();
    returnsUponRegisters();
    nothing();
    theOneWithoutMeaning();
    checks.end();
  }

  private static Bench bench(String name) {
    return new Bench(checks, name);
  }

  private static String hex(int v) {
    return Integer.toHexString(v) + "h";
  }

  private static void firstAndLast() {
    checks.sentence("0200h .. 03FFh with bit 4 0, by bits 8 .. 5");
    bench("01FFh").program(0x01FF, 0x1234).run(2).hasCounter(256);
    bench("01E0h").program(0x01E0, 0x1234).run(2).hasCounter(256);
    bench("0200h").program(0x0200, 0x1234).run(0).hasRegister(0, 0x1234).hasCounter(260);
    bench("020Fh").program(0x020F, 0x1234).run(0).hasRegister(15, 0x1234).hasCounter(260);
    bench("03EFh").program(0x03EF).run(0).hasCounter(258);
  }

  private static void bitFour() {
    checks.sentence("with bit 4 0");
    for (int operation = 0; operation < 16; operation++) {
      for (int n : new int[] {0, 15}) {
        int code = Code.immediate(operation, n) | 0x10;
        bench(hex(code)).status(0xFFFF).register(n, 0x1234).program(code, 0x4321).run(2, 2).hasCounter(256)
            .hasRegister(n, 0x1234).hasStatus(0xFFFF).hasWorkspace(512).hasState(4, 0);
      }
    }
  }

  private static void theNextWord() {
    checks.sentence("m the next word, PC grows by 2");
    for (int operation = 0; operation < 5; operation++) {
      Bench b = bench(operation + " at the last word").word(1022, Code.immediate(operation, 1)).word(0, 0x1234)
          .program(Code.one(1, Code.operand(Code.INDEXED, 0)), 1022);
      b.run(0, 0).hasCounter(2);
    }
    for (int operation : new int[] {7, 8}) {
      bench(operation + " has its word").program(Code.immediate(operation, 0), 600).run(0).hasCounter(260);
    }
    for (int operation : new int[] {5, 6, 11, 13, 14, 15}) {
      bench(operation + " has none").program(Code.immediate(operation, 0), 0x0340).run(0).hasCounter(258).run(1);
    }
    bench("Rn is the next word itself").program(0x02E0, 260, Code.immediate(1, 1), 0x1234)
        .run(0, 0).hasWord(262, 0x2468);
  }

  private static void due(int operation, int before, int v, int m, int result, int status) {
    for (int n : new int[] {0, 15}) {
      bench(operation + " of " + hex(v) + " and " + hex(m)).status(before).register(n, v)
          .program(Code.immediate(operation, n), m).run(0).hasRegister(n, result).hasStatus(status).hasCounter(260);
    }
  }

  private static void results() {
    for (int before : BEFORE) {
      for (int v : Due.WORDS) {
        for (int m : Due.WORDS) {
          results(before, v, m);
        }
      }
    }
  }

  private static void results(int before, int v, int m) {
    checks.sentence("0 Rn becomes m, tested.");
    due(0, before, v, m, m, Due.status(before, Due.TESTED, Due.tested(m)));
    checks.sentence("1 Rn plus m, tested, C, O.");
    due(1, before, v, m, (v + m) & 0xFFFF, Due.status(before, Due.SUMMED, Due.added(v, m)));
    checks.sentence("2 Rn and m, tested.");
    due(2, before, v, m, v & m, Due.status(before, Due.TESTED, Due.tested(v & m)));
    checks.sentence("3 Rn or m, tested.");
    due(3, before, v, m, v | m, Due.status(before, Due.TESTED, Due.tested(v | m)));
    checks.sentence("4 Rn is compared with m.");
    due(4, before, v, m, v, Due.status(before, Due.TESTED, Due.compared(v, m)));
  }

  private static void registersBecomePointers() {
    checks.sentence("5 Rn becomes WP.");
    for (int workspace : new int[] {0, 2, 800, 1022}) {
      for (int n : new int[] {0, 15}) {
        bench("R" + n + " with WP " + workspace).status(0xFFFF).word((workspace + 2 * n) & 1023, 0x5A5A)
            .program(0x02E0, workspace, Code.immediate(5, n)).run(0, 0)
            .hasWord((workspace + 2 * n) & 1023, workspace).hasStatus(0xFFFF);
      }
    }
    checks.sentence("6 Rn becomes ST.");
    for (int st : new int[] {0x0000, 0x8000, 0x000F, 0x01F0, 0xFFFF}) {
      for (int n : new int[] {0, 15}) {
        bench("R" + n + " with ST " + hex(st)).status(st).register(n, 0x5A5A).program(Code.immediate(6, n))
            .run(0).hasRegister(n, st).hasStatus(st).hasCounter(258);
      }
    }
  }

  private static void workspaces() {
    checks.sentence("7 WP becomes m.");
    int[][] rows = {{0, 0}, {1, 0}, {1022, 1022}, {1023, 1022}, {1024, 0}, {0x8203, 0x202}, {0xFFFF, 1022}};
    for (int n : new int[] {0, 15}) {
      for (int[] row : rows) {
        bench("WP becomes " + hex(row[0])).status(0xFFFF).register(n, 0x1234).program(Code.immediate(7, n), row[0])
            .run(0).hasWorkspace(row[1]).hasStatus(0xFFFF).hasCounter(260).hasRegister(n, 0x1234);
      }
    }
  }

  private static void masks() {
    checks.sentence("8 the mask becomes the lowest four bits of m.");
    int[][] rows = {{0, 0}, {1, 1}, {14, 14}, {15, 15}, {16, 0}, {0xFFF0, 0}, {0xFFFF, 15}, {0x8001, 1}};
    for (int[] row : rows) {
      for (int n : new int[] {0, 15}) {
        bench("the mask becomes " + hex(row[0])).status(0xFFF5).register(n, 0x1234)
            .program(Code.immediate(8, n), row[0]).run(0).hasStatus(0xFFF0 + row[1]).hasRegister(n, 0x1234);
        bench("the mask alone becomes " + hex(row[0])).status(0x000A).program(Code.immediate(8, n), row[0])
            .run(0).hasStatus(row[1]);
      }
    }
    checks.sentence("11 the mask becomes 0.");
    for (int st : new int[] {0x0000, 0x0001, 0x000F, 0xFFF0, 0xFFFF}) {
      bench("ST " + hex(st)).status(st).program(Code.immediate(11, 15)).run(0).hasStatus(st - st % 16)
          .hasCounter(258);
    }
  }

  private static void masksAgainstLevels() {
    checks.sentence("8 the mask becomes the lowest four bits of m.");
    for (int l = 1; l < 16; l++) {
      Bench lets = bench("level " + l + " is let through").program(Code.immediate(8, 0), l).word(4 * l, 800)
          .word(4 * l + 2, 90);
      lets.machine.level(l);
      lets.run(0).hasWorkspace(512).run(0).hasWorkspace(800);
      Bench holds = bench("level " + l + " is held back").program(Code.immediate(8, 0), l - 1, 0x03A0)
          .word(4 * l, 800).word(4 * l + 2, 90);
      holds.machine.level(l);
      holds.run(0, 0).hasWorkspace(512).hasCounter(262);
    }
    Bench zero = bench("level 1 is let go by 11").status(15).program(Code.immediate(11, 0), 0x03A0);
    zero.run(0).machine.level(1);
    zero.run(0).hasWorkspace(512);
  }

  private static void idle() {
    checks.sentence("10 IDLE.");
    for (int n = 0; n < 16; n++) {
      bench("IDLE with n " + n).status(0xFFFF).register(n, 0x1234).program(Code.immediate(10, n))
          .run(1).hasState(4, 1).hasCounter(258).hasStatus(0xFFFF).hasRegister(n, 0x1234);
    }
    Bench end = bench("IDLE at the last word").word(1022, Code.immediate(10, 0))
        .program(Code.one(1, Code.operand(Code.INDEXED, 0)), 1022);
    end.run(0, 1, 1).hasCounter(0).hasState(4, 1);
  }

  private static void returns() {
    checks.sentence("12: ST becomes R15, PC R14, WP R13.");
    for (int st : new int[] {0x0000, 0x01F0, 0x8000, 0xFFFF}) {
      for (int n : new int[] {0, 15}) {
        bench("ST " + hex(st)).status(0xFFFF - st).register(13, 800).register(14, 90).register(15, st)
            .program(Code.immediate(12, n)).run(0).hasWorkspace(800).hasCounter(90).hasStatus(st)
            .hasRegister(13, 800).hasRegister(14, 90).hasRegister(15, st);
      }
    }
    bench("odd and beyond").register(13, 0xFFFF).register(14, 0xFC01).program(RETURN)
        .run(0).hasWorkspace(1022).hasCounter(0);
  }

  private static void returnsUponRegisters() {
    checks.sentence("12: ST becomes R15, PC R14, WP R13.");
    // R14 and R15 are those of the workspace before WP becomes R13.
    bench("from the old workspace").register(13, 800).register(14, 90).register(15, 0x1230).word(828, 94)
        .word(830, 0x4560).program(RETURN).run(0).hasWorkspace(800).hasCounter(90).hasStatus(0x1230);
    Bench mask = bench("the mask, too").register(13, 800).register(14, 90).register(15, 5).program(RETURN)
        .word(20, 900).word(22, 94).word(90, 0x03A0);
    mask.machine.level(5);
    mask.run(0).hasStatus(5).run(0).hasWorkspace(900).hasStatus(4).hasWord(926, 800).hasWord(928, 90);
    Bench end = bench("registers that go on at 0").word(1022, 800).word(0, 90).word(2, 0x1230)
        .program(0x02E0, 996, RETURN);
    end.run(0, 0).hasWorkspace(800).hasCounter(90).hasStatus(0x1230);
  }

  private static void nothing() {
    checks.sentence("13, 14, 15 nothing.");
    for (int operation = 13; operation < 16; operation++) {
      for (int n = 0; n < 16; n++) {
        bench(operation + " with n " + n).status(0xFFFF).register(n, 0x1234).program(Code.immediate(operation, n))
            .run(0).hasCounter(258).hasStatus(0xFFFF).hasRegister(n, 0x1234).hasWorkspace(512).hasState(4, 0);
      }
    }
  }

  private static void theOneWithoutMeaning() {
    checks.sentence("2 when it is none of these");
    for (int n = 0; n < 16; n++) {
      bench("9 with n " + n).status(0xFFFF).register(n, 0x1234).program(Code.immediate(9, n), 0x4321)
          .run(2, 2).hasCounter(256).hasStatus(0xFFFF).hasRegister(n, 0x1234);
    }
  }
}
