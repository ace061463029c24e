/** The edges of "Terms", fifth paragraph: sums, differences, and what else has two operands. */
public final class SumEdgesTest {
  private static final Checks checks = new Checks("SumEdgesTest");
  private static final int SUBTRACT = 6;
  private static final int ADD = 10;
  private static final int[] BEFORE = {0x0000, 0xFFFF};

  public static void main(String[] args) {
    firstAndLast();
    sumsOfWordsTurn();
    sumsOfWords();
    sumsOfBytes();
    differencesTurn();
    differencesOfWords();
    differencesOfBytes();
    comparedIsNotChanged();
    othersAtTheirEdges();
    othersLeaveCarryAndOverflow();
    bytesLeaveTheOtherHalf();
    operandsOnThemselves();
    checks.end();
  }

  private static String hex(int v) {
    return Integer.toHexString(v) + "h";
  }

  /** On R1 as s and R2 as d. */
  private static void due(int operation, int before, int s, int d, int result, int status) {
    new Bench(checks, operation + " of s " + hex(s) + " and d " + hex(d)).status(before).register(1, s).register(2, d)
        .program(Code.two(operation, 1, 2)).run(0).hasRegister(2, result).hasRegister(1, s).hasStatus(status);
  }

  private static void firstAndLast() {
    checks.sentence("By the highest four bits 4 .. 15");
    new Bench(checks, "4000h").register(0, 0x1234).program(0x4000).run(0).hasRegister(0, 0).hasStatus(Due.E);
    new Bench(checks, "FFFFh").register(15, 301).word(300, 0x8010).program(0xFFFF).run(0).hasWord(300, 0x8010)
        .hasRegister(15, 303).hasWord(302, 0x1000).hasStatus(Due.L | Due.A | Due.P);
  }

  private static void sumsOfWordsTurn() {
    checks.sentence("C is whether a bit is carried out of the highest one, O whether both have one sign and the sum "
        + "has the other");
    due(ADD, 0, 0x0001, 0xFFFE, 0xFFFF, Due.L);
    due(ADD, 0, 0x0001, 0xFFFF, 0x0000, Due.E | Due.C);
    due(ADD, 0, 0x0002, 0xFFFF, 0x0001, Due.L | Due.A | Due.C);
    due(ADD, 0, 0x0001, 0x7FFE, 0x7FFF, Due.L | Due.A);
    due(ADD, 0, 0x0001, 0x7FFF, 0x8000, Due.L | Due.O);
    due(ADD, 0, 0x7FFF, 0x7FFF, 0xFFFE, Due.L | Due.O);
    due(ADD, 0, 0xFFFF, 0x8001, 0x8000, Due.L | Due.C);
    due(ADD, 0, 0xFFFF, 0x8000, 0x7FFF, Due.L | Due.A | Due.C | Due.O);
    due(ADD, 0, 0x8000, 0x8000, 0x0000, Due.E | Due.C | Due.O);
    due(ADD, 0, 0x7FFF, 0x8000, 0xFFFF, Due.L);
    due(ADD, 0, 0x7FFF, 0x8001, 0x0000, Due.E | Due.C);
    due(ADD, 0xFFFF, 0x0000, 0x0000, 0x0000, 0x07FF | Due.E);
  }

  private static void sumsOfWords() {
    checks.sentence("C is whether a bit is carried out of the highest one, O whether both have one sign and the sum "
        + "has the other");
    for (int before : BEFORE) {
      for (int s : Due.WORDS) {
        for (int d : Due.WORDS) {
          due(ADD, before, s, d, (s + d) & 0xFFFF, Due.status(before, Due.SUMMED, Due.added(d, s)));
        }
      }
    }
  }

  private static void sumsOfBytes() {
    checks.sentence("C is whether a bit is carried out of the highest one, O whether both have one sign and the sum "
        + "has the other");
    for (int s : Due.BYTES) {
      for (int d : Due.BYTES) {
        int result = (s + d) & 0xFF;
        int bits = Due.added(d * 256, s * 256) | Due.parity(result);
        // A carry out of the lower halves must not count.
        due(ADD + 1, 0, s * 256 + 0xFF, d * 256 + 0xFF, result * 256 + 0xFF, bits);
        due(ADD + 1, 0xFFFF, s * 256, d * 256, result * 256, Due.status(0xFFFF, Due.SUMMED | Due.P, bits));
      }
    }
  }

  private static void differencesTurn() {
    checks.sentence("DIFFERENCES d - s are sums of d, the bits of s turned, and 1.");
    due(SUBTRACT, 0, 0x0000, 0x0000, 0x0000, Due.E | Due.C);
    due(SUBTRACT, 0, 0x0001, 0x0000, 0xFFFF, Due.L);
    due(SUBTRACT, 0, 0x0001, 0x0001, 0x0000, Due.E | Due.C);
    due(SUBTRACT, 0, 0xFFFF, 0xFFFE, 0xFFFF, Due.L);
    due(SUBTRACT, 0, 0xFFFF, 0xFFFF, 0x0000, Due.E | Due.C);
    due(SUBTRACT, 0, 0x0001, 0x8001, 0x8000, Due.L | Due.C);
    due(SUBTRACT, 0, 0x0001, 0x8000, 0x7FFF, Due.L | Due.A | Due.C | Due.O);
    due(SUBTRACT, 0, 0xFFFF, 0x7FFE, 0x7FFF, Due.L | Due.A);
    due(SUBTRACT, 0, 0xFFFF, 0x7FFF, 0x8000, Due.L | Due.O);
    due(SUBTRACT, 0, 0x8000, 0xFFFF, 0x7FFF, Due.L | Due.A | Due.C);
    due(SUBTRACT, 0, 0x8000, 0x0000, 0x8000, Due.L | Due.O);
    due(SUBTRACT, 0, 0x8000, 0x8000, 0x0000, Due.E | Due.C);
    due(SUBTRACT, 0, 0x7FFF, 0xFFFF, 0x8000, Due.L | Due.C);
    due(SUBTRACT, 0, 0x7FFF, 0xFFFE, 0x7FFF, Due.L | Due.A | Due.C | Due.O);
  }

  private static void differencesOfWords() {
    checks.sentence("DIFFERENCES d - s are sums of d, the bits of s turned, and 1.");
    for (int before : BEFORE) {
      for (int s : Due.WORDS) {
        for (int d : Due.WORDS) {
          due(SUBTRACT, before, s, d, (d - s) & 0xFFFF, Due.status(before, Due.SUMMED, Due.subtracted(d, s)));
        }
      }
    }
  }

  private static void differencesOfBytes() {
    checks.sentence("DIFFERENCES d - s are sums of d, the bits of s turned, and 1.");
    for (int s : Due.BYTES) {
      for (int d : Due.BYTES) {
        int result = (d - s) & 0xFF;
        int bits = Due.subtracted(d * 256, s * 256) | Due.parity(result);
        // A lower half of s above that of d must not count.
        due(SUBTRACT + 1, 0, s * 256 + 0xFF, d * 256, result * 256, bits);
        due(SUBTRACT + 1, 0xFFFF, s * 256, d * 256 + 0xFF, result * 256 + 0xFF,
            Due.status(0xFFFF, Due.SUMMED | Due.P, bits));
      }
    }
  }

  private static void comparedIsNotChanged() {
    checks.sentence("8, 9: nothing becomes anything; s is compared with d.");
    for (int s : Due.WORDS) {
      for (int d : Due.WORDS) {
        due(8, 0xFFFF, s, d, d, Due.status(0xFFFF, Due.TESTED, Due.compared(s, d)));
      }
    }
    for (int s : Due.BYTES) {
      for (int d : Due.BYTES) {
        due(9, 0xFFFF, s * 256 + 1, d * 256 + 2, d * 256 + 2,
            Due.status(0xFFFF, Due.TESTED | Due.P, Due.compared(s * 256, d * 256) | Due.parity(s)));
      }
    }
  }

  private static void othersAtTheirEdges() {
    checks.sentence("4, 5: d and not s, tested.");
    for (int s : Due.WORDS) {
      for (int d : Due.WORDS) {
        tested(4, s, d, d & (0xFFFF - s));
      }
    }
    checks.sentence("12, 13: s, tested.");
    for (int s : Due.WORDS) {
      tested(12, s, 0x1234, s);
    }
    checks.sentence("14, 15: d or s, tested.");
    for (int s : Due.WORDS) {
      for (int d : Due.WORDS) {
        tested(14, s, d, d | s);
      }
    }
  }

  private static void tested(int operation, int s, int d, int result) {
    due(operation, 0, s, d, result, Due.tested(result));
    int upper = result & 0xFF00;
    due(operation + 1, 0, s, d, upper + (d & 0xFF), Due.tested(upper) | Due.parity(upper >> 8));
  }

  private static void othersLeaveCarryAndOverflow() {
    checks.sentence("tested, C, O");
    for (int operation : new int[] {4, 8, 12, 14}) {
      due(operation, Due.C | Due.O, 0, 0, 0, Due.E | Due.C | Due.O);
      due(operation, 0, 0, 0, 0, Due.E);
      due(operation + 1, Due.C | Due.O, 0, 0, 0, Due.E | Due.C | Due.O);
      due(operation + 1, 0, 0, 0, 0, Due.E);
    }
  }

  private static void bytesLeaveTheOtherHalf() {
    checks.sentence("the odd ones on bytes");
    for (int operation : new int[] {5, 7, 11, 13, 15}) {
      new Bench(checks, operation + " to an upper half").register(1, 0xFFFF).register(2, 300).word(300, 0xFF5A)
          .word(298, 0x1111).word(302, 0x2222).program(Code.two(operation, 1, Code.operand(Code.INDIRECT, 2)))
          .run(0).hasWord(300, ofOnes(operation) * 256 + 0x5A).hasWord(298, 0x1111).hasWord(302, 0x2222);
      new Bench(checks, operation + " to a lower half").register(1, 0xFFFF).register(2, 301).word(300, 0x5AFF)
          .word(298, 0x1111).word(302, 0x2222).program(Code.two(operation, 1, Code.operand(Code.INDIRECT, 2)))
          .run(0).hasWord(300, 0x5A00 + ofOnes(operation)).hasWord(298, 0x1111).hasWord(302, 0x2222);
    }
  }

  /** What an operation makes of FFh and FFh. */
  private static int ofOnes(int operation) {
    return operation == 5 || operation == 7 ? 0 : operation == 11 ? 0xFE : 0xFF;
  }

  private static void operandsOnThemselves() {
    checks.sentence("s is the source's value, d the destination's, which becomes the result");
    int[][] rows = {{4, 0, Due.E}, {6, 0, Due.E | Due.C}, {8, 0x8000, Due.E}, {10, 0, Due.E | Due.C | Due.O},
      {12, 0x8000, Due.L}, {14, 0x8000, Due.L}};
    for (int[] row : rows) {
      new Bench(checks, row[0] + " of R2 and R2").register(2, 0x8000).program(Code.two(row[0], 2, 2))
          .run(0).hasRegister(2, row[1]).hasStatus(row[2]);
    }
  }
}
