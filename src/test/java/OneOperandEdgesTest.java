/** The edges of "Terms", ninth paragraph: 0400h .. 077Fh. */
public final class OneOperandEdgesTest {
  private static final Checks checks = new Checks("OneOperandEdgesTest");
  private static final int[] BEFORE = {0x0000, 0xFFFF};

  public static void main(String[] args) {
    firstAndLast();
    switches();
    branches();
    executed();
    constants();
    negatives();
    turnedBits();
    smallSums();
    links();
    halvesChangePlaces();
    withoutSign();
    checks.end();
  }

  private static Bench bench(String name) {
    return new Bench(checks, name);
  }

  private static int indexed(int n) {
    return Code.operand(Code.INDEXED, n);
  }

  private static String hex(int v) {
    return Integer.toHexString(v) + "h";
  }

  private static void due(int operation, int before, int o, int result, int status) {
    bench(operation + " of " + hex(o)).status(before).register(5, o).program(Code.one(operation, 5))
        .run(0).hasRegister(5, result).hasStatus(status).hasCounter(258);
  }

  private static void firstAndLast() {
    checks.sentence("0400h .. 077Fh, by bits 9 .. 6");
    bench("03FFh").program(0x03FF).run(2).hasCounter(256);
    bench("0400h").register(0, 800).register(1, 90).program(0x0400).run(0).hasWorkspace(800).hasCounter(90);
    bench("077Fh").register(15, 300).word(300, 0xFFFF).program(0x077F).run(0).hasWord(300, 1).hasRegister(15, 302);
    bench("0780h").register(0, 0xFFFF).program(0x0780).run(2).hasRegister(0, 0xFFFF).hasCounter(256);
  }

  private static void switches() {
    checks.sentence("0 a SWITCH through its address.");
    bench("through R0").register(0, 800).register(1, 90).program(Code.one(0, 0)).run(0).hasWorkspace(800)
        .hasCounter(90).hasWord(828, 258);
    bench("through R15").register(15, 800).register(16, 90).program(Code.one(0, 15)).run(0).hasWorkspace(800)
        .hasCounter(90);
    // The register grows in the old workspace, before anything is read.
    bench("through a register that points to itself").register(3, 518).register(4, 90)
        .program(Code.one(0, Code.operand(Code.GROWING, 3))).run(0).hasWorkspace(520).hasCounter(90)
        .hasRegister(3, 520);
    bench("ST is kept and stays").status(0xFFFF).word(300, 800).word(302, 90).program(Code.one(0, indexed(0)), 300)
        .run(0).hasStatus(0xFFFF).hasWord(830, 0xFFFF);
  }

  private static void branches() {
    checks.sentence("1 PC becomes its address.");
    for (int n : new int[] {0, 15}) {
      bench("R" + n).status(0xFFFF).register(n, 90).program(Code.one(1, n)).run(0).hasCounter(512 + 2 * n)
          .hasStatus(0xFFFF).hasRegister(n, 90);
    }
    bench("to itself").program(Code.one(1, indexed(0)), 256).run(0, 0).hasCounter(256);
    bench("past the end").register(3, 1020).program(Code.one(1, indexed(3)), 6).run(0).hasCounter(2);
  }

  private static void executed() {
    checks.sentence("2 X: o is done as an instruction (its own words stand at PC).");
    bench("no words").register(1, 0x04C5).register(5, 9).program(Code.one(2, 1)).run(0).hasRegister(5, 0)
        .hasCounter(258);
    bench("one word").register(1, Code.immediate(0, 5)).program(Code.one(2, 1), 0x1234).run(0)
        .hasRegister(5, 0x1234).hasCounter(260);
    bench("two words").register(1, Code.two(12, indexed(0), indexed(0))).word(300, 0x1234)
        .program(Code.one(2, 1), 300, 302).run(0).hasWord(302, 0x1234).hasCounter(262);
    bench("two words behind the X's own").word(304, Code.two(12, indexed(0), indexed(0))).word(300, 0x1234)
        .program(Code.one(2, indexed(0)), 304, 300, 302).run(0).hasWord(302, 0x1234).hasCounter(264);
    Bench end = bench("its words go on at 0").register(1, Code.immediate(0, 5)).word(1022, Code.one(2, 1))
        .word(0, 0x1234).program(Code.one(1, indexed(0)), 1022);
    end.run(0, 0).hasRegister(5, 0x1234).hasCounter(2);
    bench("a switch keeps PC behind its words").register(1, Code.one(0, indexed(0))).word(300, 800).word(302, 90)
        .program(Code.one(2, 1), 300).run(0).hasWorkspace(800).hasWord(828, 260);
    bench("a jump goes from behind the X").register(1, Code.near(0x10, -1)).program(Code.one(2, 1))
        .run(0).hasCounter(256);
    bench("what it does to its own operand").register(1, Code.one(12, 1)).program(Code.one(2, 1))
        .run(0).hasRegister(1, 0xFFFF);
    bench("the grown register is its operand").register(1, 300).word(300, Code.one(6, 1))
        .program(Code.one(2, Code.operand(Code.GROWING, 1))).run(0).hasRegister(1, 303);
  }

  private static void constants() {
    constant("3 0", 3, 0);
    constant("12 FFFFh", 12, 0xFFFF);
  }

  private static void constant(String words, int operation, int result) {
    checks.sentence(words);
    for (int before : BEFORE) {
      for (int o : Due.WORDS) {
        due(operation, before, o, result, before);
      }
    }
  }

  private static void negatives() {
    checks.sentence("4 -o, tested, C whether o is 0, O whether it is 8000h");
    for (int before : BEFORE) {
      for (int o : Due.WORDS) {
        int result = (0x10000 - o) % 0x10000;
        int bits = Due.tested(result) | (o == 0 ? Due.C : 0) | (o == 0x8000 ? Due.O : 0);
        due(4, before, o, result, Due.status(before, Due.SUMMED, bits));
      }
    }
    due(4, 0, 0x0000, 0x0000, Due.E | Due.C);
    due(4, 0, 0x0001, 0xFFFF, Due.L);
    due(4, 0, 0x7FFF, 0x8001, Due.L);
    due(4, 0, 0x8000, 0x8000, Due.L | Due.O);
    due(4, 0, 0x8001, 0x7FFF, Due.L | Due.A);
    due(4, 0, 0xFFFF, 0x0001, Due.L | Due.A);
  }

  private static void turnedBits() {
    checks.sentence("5 not o, tested");
    for (int before : BEFORE) {
      for (int o : Due.WORDS) {
        due(5, before, o, 0xFFFF - o, Due.status(before, Due.TESTED, Due.tested(0xFFFF - o)));
      }
    }
  }

  private static void smallSums() {
    checks.sentence("6, 7, 8, 9: o plus 1, 2, FFFFh, FFFEh, tested, C, O");
    int[] plus = {1, 2, 0xFFFF, 0xFFFE};
    for (int before : BEFORE) {
      for (int o : Due.WORDS) {
        for (int i = 0; i < 4; i++) {
          due(6 + i, before, o, (o + plus[i]) & 0xFFFF, Due.status(before, Due.SUMMED, Due.added(o, plus[i])));
        }
      }
    }
    due(6, 0, 0xFFFF, 0x0000, Due.E | Due.C);
    due(6, 0, 0x7FFF, 0x8000, Due.L | Due.O);
    due(7, 0, 0xFFFE, 0x0000, Due.E | Due.C);
    due(7, 0, 0x7FFE, 0x8000, Due.L | Due.O);
    due(7, 0, 0x7FFD, 0x7FFF, Due.L | Due.A);
    due(8, 0, 0x0000, 0xFFFF, Due.L);
    due(8, 0, 0x0001, 0x0000, Due.E | Due.C);
    due(8, 0, 0x8000, 0x7FFF, Due.L | Due.A | Due.C | Due.O);
    due(9, 0, 0x0001, 0xFFFF, Due.L);
    due(9, 0, 0x0002, 0x0000, Due.E | Due.C);
    due(9, 0, 0x8001, 0x7FFF, Due.L | Due.A | Due.C | Due.O);
    due(9, 0, 0x8002, 0x8000, Due.L | Due.C);
  }

  private static void links() {
    checks.sentence("10: R11 becomes PC, PC its address");
    bench("PC is behind the instruction").status(0xFFFF).register(3, 90)
        .program(Code.one(10, Code.operand(Code.INDIRECT, 3))).run(0).hasCounter(90).hasRegister(11, 258)
        .hasStatus(0xFFFF).hasRegister(3, 90);
    bench("PC is behind its word").program(Code.one(10, indexed(0)), 90).run(0).hasCounter(90).hasRegister(11, 260);
    bench("the address is found before R11 changes").register(11, 90)
        .program(Code.one(10, Code.operand(Code.INDIRECT, 11))).run(0).hasCounter(90).hasRegister(11, 258);
    bench("the sum, too").register(11, 90).program(Code.one(10, indexed(11)), 10)
        .run(0).hasCounter(100).hasRegister(11, 260);
    bench("R11 has grown and becomes PC then").register(11, 90)
        .program(Code.one(10, Code.operand(Code.GROWING, 11))).run(0).hasCounter(90).hasRegister(11, 258);
    bench("to R11 itself").program(Code.one(10, 11)).run(0).hasCounter(534).hasRegister(11, 258);
    Bench end = bench("PC has gone on at 0").word(1022, Code.one(10, 3)).program(Code.one(1, indexed(0)), 1022);
    end.run(0, 0).hasRegister(11, 0).hasCounter(518);
  }

  private static void halvesChangePlaces() {
    checks.sentence("11: its halves change places");
    int[][] rows = {{0x0000, 0x0000}, {0x00FF, 0xFF00}, {0xFF00, 0x00FF}, {0x8001, 0x0180}, {0x1234, 0x3412},
      {0xFFFF, 0xFFFF}};
    for (int before : BEFORE) {
      for (int[] row : rows) {
        due(11, before, row[0], row[1], before);
      }
    }
  }

  private static void withoutSign() {
    checks.sentence("13: o is tested, O whether it is 8000h, C 0, and it becomes -o if it was below 0.");
    for (int before : BEFORE) {
      for (int o : Due.WORDS) {
        int bits = Due.tested(o) | (o == 0x8000 ? Due.O : 0);
        due(13, before, o, o < 0x8000 ? o : 0x10000 - o, Due.status(before, Due.SUMMED, bits));
      }
    }
    due(13, 0, 0x0000, 0x0000, Due.E);
    due(13, 0, 0x7FFF, 0x7FFF, Due.L | Due.A);
    due(13, 0, 0x8000, 0x8000, Due.L | Due.O);
    due(13, 0, 0x8001, 0x7FFF, Due.L);
    due(13, 0, 0xFFFF, 0x0001, Due.L);
  }
}
