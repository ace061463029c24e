/** The edges of "Terms", sixth paragraph: highest six bits 8 .. 15. */
public final class RegisterAndOperandEdgesTest {
  private static final Checks checks = new Checks("RegisterAndOperandEdgesTest");
  private static final int LINES_FROM = 12;
  private static final int LINES_TO = 13;

  public static void main(String[] args) {
    firstAndLast();
    everyRegisterIsD();
    allOnes();
    noOnes();
    exclusiveOr();
    extendedVectors();
    extendedRegisters();
    extendedMark();
    countsOfLinesFrom();
    linesFromAreTested();
    countsOfLinesTo();
    linesToAreTested();
    linesBeginAtHalfOfR12();
    products();
    divisorsThatAreNotAbove();
    divisorsThatAreAbove();
    checks.end();
  }

  private static Bench bench(String name) {
    return new Bench(checks, name);
  }

  private static String hex(int v) {
    return Integer.toHexString(v) + "h";
  }

  private static void firstAndLast() {
    checks.sentence("By the highest six bits 8 .. 15");
    bench("1FFFh asks a line").register(12, 4).wires(1, "1").program(0x1FFF).run(0).hasStatus(Due.E);
    bench("2000h").register(0, 0x1234).program(0x2000).run(0).hasStatus(Due.E).hasRegister(0, 0x1234);
    bench("3FFFh").register(15, 300).register(16, 5).word(300, 303).program(0x3FFF).run(0)
        .hasRegister(15, (302 * 65536 + 5) / 303).hasRegister(16, (302 * 65536 + 5) % 303).hasStatus(0);
  }

  private static void everyRegisterIsD() {
    checks.sentence("By the highest six bits 8 .. 15 (D, bits 9 .. 6; source in 5 .. 0)");
    for (int d = 0; d < 16; d++) {
      // Neither RD nor R(D + 1).
      int n = d < 8 ? 12 : 4;
      bench("8 with R" + d).register(d, 0x00F0).register(n, 0x0030).program(Code.register(8, d, n))
          .run(0).hasStatus(Due.E);
      bench("9 with R" + d).status(Due.E).register(d, 0x00F0).register(n, 0x0030).program(Code.register(9, d, n))
          .run(0).hasStatus(0);
      bench("10 with R" + d).register(d, 0x00F0).register(n, 0x0030).program(Code.register(10, d, n))
          .run(0).hasRegister(d, 0x00C0).hasRegister(n, 0x0030);
      bench("14 with R" + d).register(d, 0x0302).register(n, 0x0100).program(Code.register(14, d, n))
          .run(0).hasRegister(d, 3).hasRegister(d + 1, 0x0200);
      bench("15 with R" + d).register(d, 1).register(d + 1, 0x0203).register(n, 0x0100)
          .program(Code.register(15, d, n)).run(0).hasRegister(d, 0x0102).hasRegister(d + 1, 3);
    }
  }

  private static void asked(int operation, int s, int d, boolean due) {
    for (int before : new int[] {0x0000, 0xFFFF}) {
      bench(operation + " of s " + hex(s) + " and RD " + hex(d)).status(before).register(1, s).register(2, d)
          .program(Code.register(operation, 2, 1)).run(0).hasRegister(1, s).hasRegister(2, d)
          .hasStatus(Due.status(before, Due.E, due ? Due.E : 0));
    }
  }

  private static void allOnes() {
    checks.sentence("8: E is whether RD has all ones of s");
    asked(8, 0x0000, 0x0000, true);
    asked(8, 0x0000, 0xFFFF, true);
    asked(8, 0xFFFF, 0xFFFF, true);
    for (int bit = 0; bit < 16; bit++) {
      asked(8, 0xFFFF, 0xFFFF - (1 << bit), false);
      asked(8, 1 << bit, 1 << bit, true);
      asked(8, 1 << bit, 0xFFFF - (1 << bit), false);
      asked(8, 0xFFFF - (1 << bit), 0xFFFF - (1 << bit), true);
    }
  }

  private static void noOnes() {
    checks.sentence("9: whether it has none");
    asked(9, 0x0000, 0x0000, true);
    asked(9, 0x0000, 0xFFFF, true);
    asked(9, 0xFFFF, 0x0000, true);
    asked(9, 0xFFFF, 0xFFFF, false);
    for (int bit = 0; bit < 16; bit++) {
      asked(9, 1 << bit, 0xFFFF - (1 << bit), true);
      asked(9, 0xFFFF, 1 << bit, false);
      asked(9, 1 << bit, 0xFFFF, false);
    }
  }

  private static void exclusiveOr() {
    checks.sentence("10: RD becomes RD exclusive or s, tested.");
    for (int s : Due.WORDS) {
      for (int d : Due.WORDS) {
        int result = (s | d) - (s & d);
        bench("10 of " + hex(s) + " and " + hex(d)).status(0xFFFF).register(1, s).register(2, d)
            .program(Code.register(10, 2, 1)).run(0).hasRegister(2, result).hasRegister(1, s)
            .hasStatus(Due.status(0xFFFF, Due.TESTED, Due.tested(result)));
      }
    }
    bench("10 of R2 and R2").register(2, 0xFFFF).program(Code.register(10, 2, 2)).run(0).hasRegister(2, 0)
        .hasStatus(Due.E);
  }

  private static void extendedVectors() {
    checks.sentence("11: a SWITCH through 64 + 4 * D");
    for (int d = 0; d < 16; d++) {
      Bench b = bench("extended call " + d).status(0x8004);
      for (int address = 60; address < 132; address += 2) {
        b.word(address, 0x0100 + 2 * address);
      }
      b.word(64 + 4 * d, 800).word(66 + 4 * d, 90).program(Code.register(11, d, 1)).run(0).hasWorkspace(800)
          .hasCounter(90).hasWord(826, 512).hasWord(828, 258).hasWord(830, 0x8004);
    }
  }

  private static void extendedRegisters() {
    checks.sentence("R11 of the new workspace becomes the source's address");
    for (int n : new int[] {0, 1, 15}) {
      bench("the address of R" + n).word(64, 800).word(66, 90).program(Code.register(11, 0, n))
          .run(0).hasWord(822, 512 + 2 * n).hasRegister(11, 0);
    }
    // W and N are read before R11 becomes anything, and the source's value is not asked for.
    bench("R11 is W's word").word(64, 42).word(66, 90).program(Code.register(11, 0, 1))
        .run(0).hasWorkspace(42).hasCounter(90).hasWord(64, 514);
    bench("R11 is N's word").word(64, 44).word(66, 90).program(Code.register(11, 0, 1))
        .run(0).hasWorkspace(44).hasCounter(90).hasWord(66, 514);
    bench("R11 goes on at 0").word(64, 1002).word(66, 90).program(Code.register(11, 0, 1))
        .run(0).hasWorkspace(1002).hasWord(0, 514).hasWord(4, 512).hasWord(6, 258);
    bench("to the same workspace").word(64, 512).word(66, 90).program(Code.register(11, 0, 1))
        .run(0).hasRegister(11, 514).hasRegister(13, 512).hasRegister(14, 258);
  }

  private static void extendedMark() {
    checks.sentence("and X 1");
    for (int before : new int[] {0x0000, 0xFDFF, 0xFFFF, Due.X}) {
      bench("ST " + hex(before)).status(before).word(64, 800).word(66, 90).program(Code.register(11, 0, 1))
          .run(0).hasStatus(before | Due.X).hasWord(830, before);
    }
    bench("and back").word(64, 800).word(66, 90).word(90, 0x0380).program(Code.register(11, 0, 1))
        .run(0).hasStatus(Due.X).run(0).hasStatus(0).hasCounter(258).hasWorkspace(512);
  }

  private static String bits(int v, int count) {
    StringBuilder text = new StringBuilder();
    for (int i = 0; i < count; i++) {
      text.append(v >> i & 1);
    }
    return text.toString();
  }

  private static void countsOfLinesFrom() {
    checks.sentence("12: LINES FROM: D lines (16 for 0), from R12 / 2 on, become the lowest bits of s, "
        + "the lowest first; s is a byte if there are up to 8");
    for (int d = 0; d < 16; d++) {
      int count = d == 0 ? 16 : d;
      for (int s : new int[] {0x0000, 0xFFFF, 0xA6C9, 0x5936}) {
        int values = count <= 8 ? s >> 8 : s;
        // The lines beside them are the others of the last and the first one, and stay.
        String before = values % 2 == 0 ? "1" : "0";
        String behind = (values >> count - 1) % 2 == 0 ? "1" : "0";
        bench(count + " lines from " + hex(s)).register(12, 40).register(1, s).wires(19, before)
            .wires(20, "0101010101010101").wires(20 + count, behind).program(Code.register(LINES_FROM, d, 1))
            .run(0).hasLines(19, before + bits(values, count) + behind).hasRegister(1, s).hasRegister(12, 40);
      }
    }
  }

  private static void linesFromAreTested() {
    checks.sentence("it is tested (and P)");
    for (int d : new int[] {1, 7, 8}) {
      for (int v : Due.BYTES) {
        bench(d + " lines from the byte " + hex(v)).status(0xFFFF).register(1, v * 256 + 0x01)
            .program(Code.register(LINES_FROM, d, 1)).run(0)
            .hasStatus(Due.status(0xFFFF, Due.TESTED | Due.P, Due.tested(v * 256) | Due.parity(v)));
      }
    }
    for (int d : new int[] {9, 15, 0}) {
      for (int v : Due.WORDS) {
        bench(d + " lines from the word " + hex(v)).status(0xFFFF).register(1, v)
            .program(Code.register(LINES_FROM, d, 1)).run(0)
            .hasStatus(Due.status(0xFFFF, Due.TESTED, Due.tested(v)));
        bench(d + " lines from the word " + hex(v) + " without P").register(1, v)
            .program(Code.register(LINES_FROM, d, 1)).run(0).hasStatus(Due.tested(v));
      }
    }
  }

  private static void countsOfLinesTo() {
    checks.sentence("13: LINES TO: the operand becomes these lines, 0 above them (a byte for up to 8)");
    for (int d = 0; d < 16; d++) {
      int count = d == 0 ? 16 : d;
      for (int v : new int[] {0x0000, 0xFFFF, 0xA6C9, 0x5936}) {
        int values = v % (1 << count);
        int due = count <= 8 ? values * 256 + 0x5A : values;
        // The lines beside them are 1 and must not come in.
        bench(count + " lines to " + hex(values)).register(12, 40).register(1, 0xA55A).wires(19, "1")
            .wires(20, bits(v, count) + "1").program(Code.register(LINES_TO, d, 1)).run(0).hasRegister(1, due)
            .hasLines(19, "1" + bits(v, count) + "1").hasRegister(12, 40)
            .hasStatus(count <= 8 ? Due.tested(values * 256) | Due.parity(values) : Due.tested(values));
      }
    }
    bench("8 lines to a lower half").register(1, 301).word(300, 0x5A5A).wires(0, "100000011")
        .program(Code.register(LINES_TO, 8, Code.operand(Code.INDIRECT, 1))).run(0).hasWord(300, 0x5A81);
    bench("9 lines to an odd address").register(1, 301).word(300, 0x5A5A).wires(0, "100000011")
        .program(Code.register(LINES_TO, 9, Code.operand(Code.INDIRECT, 1))).run(0).hasWord(300, 0x0181);
  }

  private static void linesToAreTested() {
    checks.sentence("tested (and P)");
    for (int v : Due.BYTES) {
      bench("8 lines of " + hex(v)).status(0xFFFF).register(1, 0x00FF).wires(0, bits(v, 8))
          .program(Code.register(LINES_TO, 8, 1)).run(0)
          .hasStatus(Due.status(0xFFFF, Due.TESTED | Due.P, Due.tested(v * 256) | Due.parity(v)));
    }
    for (int v : Due.WORDS) {
      bench("16 lines of " + hex(v)).status(0xFFFF).wires(0, bits(v, 16)).program(Code.register(LINES_TO, 0, 1))
          .run(0).hasStatus(Due.status(0xFFFF, Due.TESTED, Due.tested(v)));
      bench("16 lines of " + hex(v) + " without P").wires(0, bits(v, 16)).program(Code.register(LINES_TO, 0, 1))
          .run(0).hasStatus(Due.tested(v));
    }
    // Seven lines never reach the sign of a byte, nor fifteen that of a word.
    bench("7 ones").wires(0, "11111111").program(Code.register(LINES_TO, 7, 1)).run(0).hasRegister(1, 0x7F00)
        .hasStatus(Due.L | Due.A | Due.P);
    bench("15 ones").wires(0, "1111111111111111").program(Code.register(LINES_TO, 15, 1))
        .run(0).hasRegister(1, 0x7FFF).hasStatus(Due.L | Due.A);
  }

  private static void linesBeginAtHalfOfR12() {
    checks.sentence("from R12 / 2 on");
    int[][] rows = {{0, 0}, {1, 0}, {2, 1}, {3, 1}, {126, 63}, {127, 63}, {128, 0}, {0x8000, 0}, {0xFFFF, 63}};
    for (int[] row : rows) {
      bench("lines from with R12 " + row[0]).register(12, row[0]).register(1, 0x0300).wires(row[1] + 63, "1000")
          .program(Code.register(LINES_FROM, 2, 1)).run(0).hasLines(row[1] + 63, "1110");
      bench("lines to with R12 " + row[0]).register(12, row[0]).wires(row[1], "101")
          .program(Code.register(LINES_TO, 3, 1)).run(0).hasRegister(1, 0x0500);
    }
  }

  private static void products() {
    checks.sentence("14: RD and R(D + 1) become the product of RD and s (without sign), the upper half first.");
    for (int s : Due.WORDS) {
      for (int d : Due.WORDS) {
        long product = (long) s * d;
        bench("product of " + hex(s) + " and " + hex(d)).status(0xFFFF).register(1, s).register(2, d)
            .register(3, 0x5A5A).register(4, 0x1234).program(Code.register(14, 2, 1)).run(0)
            .hasRegister(2, (int) (product / 65536)).hasRegister(3, (int) (product % 65536)).hasRegister(1, s)
            .hasRegister(4, 0x1234).hasStatus(0xFFFF);
      }
    }
    bench("R(D + 1) as source").register(2, 0x0300).register(3, 0x0500).program(Code.register(14, 2, 3))
        .run(0).hasRegister(2, 0x000F).hasRegister(3, 0).hasStatus(0);
    bench("D is 0").register(0, 0xFFFF).register(1, 0xFFFF).program(Code.register(14, 0, 1))
        .run(0).hasRegister(0, 0xFFFE).hasRegister(1, 1);
  }

  private static void quotient(int s, int upper, int lower) {
    long number = upper * 65536L + lower;
    bench(hex(upper) + ", " + hex(lower) + " by " + hex(s)).status(0xFFFF).register(1, s).register(2, upper)
        .register(3, lower).register(4, 0x1234).program(Code.register(15, 2, 1)).run(0)
        .hasRegister(2, (int) (number / s)).hasRegister(3, (int) (number % s)).hasRegister(1, s)
        .hasRegister(4, 0x1234).hasStatus(0xFFFF - Due.O);
  }

  private static void noQuotient(int s, int upper, int lower) {
    for (int before : new int[] {0x0000, 0xFFFF}) {
      bench(hex(upper) + ", " + hex(lower) + " not by " + hex(s)).status(before).register(1, s).register(2, upper)
          .register(3, lower).program(Code.register(15, 2, 1)).run(0).hasRegister(1, s).hasRegister(2, upper)
          .hasRegister(3, lower).hasStatus(before | Due.O);
    }
  }

  private static void divisorsThatAreNotAbove() {
    checks.sentence("15: if s is not above RD: O is 1");
    for (int upper : Due.WORDS) {
      for (int s : Due.WORDS) {
        if (s <= upper) {
          noQuotient(s, upper, 0x0000);
          noQuotient(s, upper, 0xFFFF);
        }
      }
    }
    bench("by RD itself").register(2, 0xFFFF).register(3, 5).program(Code.register(15, 2, 2))
        .run(0).hasRegister(2, 0xFFFF).hasRegister(3, 5).hasStatus(Due.O);
  }

  private static void divisorsThatAreAbove() {
    checks.sentence("otherwise O is 0, the number of RD (upper half) and R(D + 1) is divided by s, without sign: "
        + "RD becomes the quotient, R(D + 1) the rest.");
    for (int upper : Due.WORDS) {
      for (int s : Due.WORDS) {
        if (s > upper) {
          quotient(s, upper, 0x0000);
          quotient(s, upper, 0x8000);
          quotient(s, upper, 0xFFFF);
        }
      }
      if (upper < 0xFFFF) {
        quotient(upper + 1, upper, 0xFFFF);
      }
    }
    bench("by R(D + 1)").register(2, 2).register(3, 5).program(Code.register(15, 2, 3))
        .run(0).hasRegister(2, (2 * 65536 + 5) / 5).hasRegister(3, (2 * 65536 + 5) % 5).hasStatus(0);
  }
}
