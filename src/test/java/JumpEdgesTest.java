/** The edges of "Terms", seventh paragraph: jumps, and the instructions on one line. */
public final class JumpEdgesTest {
  private static final Checks checks = new Checks("JumpEdgesTest");
  private static final int ALWAYS = 0x10;

  /** Upper half, bits of ST with which the jump is taken, bits with which it is not. */
  private static final int[][] TURNS = {
    {0x11, 0, Due.A}, {0x11, Due.L | Due.C | Due.O | Due.P, Due.E}, {0x11, Due.X, Due.A | Due.E},
    {0x12, 0, Due.L}, {0x12, Due.E, Due.L | Due.A}, {0x12, Due.L | Due.E, Due.L},
    {0x13, Due.E, 0}, {0x13, 0xFFFF, 0xFFFF - Due.E},
    {0x14, Due.L, 0}, {0x14, Due.E, Due.A | Due.C | Due.O | Due.P}, {0x14, Due.L | Due.E, Due.A},
    {0x15, Due.A, 0}, {0x15, Due.A | Due.E, Due.L | Due.E}, {0x15, 0xFFFF, 0xFFFF - Due.A},
    {0x16, 0, Due.E}, {0x16, 0xFFFF - Due.E, 0xFFFF},
    {0x17, 0, Due.C}, {0x17, 0xFFFF - Due.C, 0xFFFF},
    {0x18, Due.C, 0}, {0x18, 0xFFFF, 0xFFFF - Due.C},
    {0x19, 0, Due.O}, {0x19, 0xFFFF - Due.O, 0xFFFF},
    {0x1A, 0, Due.L}, {0x1A, Due.A | Due.C | Due.O | Due.P, Due.E}, {0x1A, Due.A, Due.L | Due.E},
    {0x1B, Due.L, 0}, {0x1B, Due.L | Due.A, Due.L | Due.E}, {0x1B, 0xFFFF - Due.E, Due.E},
    {0x1C, Due.P, 0}, {0x1C, 0xFFFF, 0xFFFF - Due.P},
  };

  public static void main(String[] args) {
    distances();
    distancesPastTheEnds();
    conditionsTurn();
    alwaysIsAlways();
    jumpsNotTaken();
    linesBecome();
    linesAreAsked();
    linesByHalfOfR12();
    checks.end();
  }

  private static Bench bench(String name) {
    return new Bench(checks, name);
  }

  private static void distances() {
    checks.sentence("PC grows by twice the lower half (with sign)");
    for (int distance = -128; distance < 128; distance++) {
      bench("by " + distance).program(Code.near(ALWAYS, distance)).run(0).hasCounter(258 + 2 * distance);
    }
  }

  /** From the word at an address. */
  private static void past(int from, int distance, int due) {
    bench("from " + from + " by " + distance).word(from, Code.near(ALWAYS, distance))
        .program(Code.one(1, Code.operand(Code.INDEXED, 0)), from).run(0, 0).hasCounter(due);
  }

  private static void distancesPastTheEnds() {
    checks.sentence("PC grows by twice the lower half (with sign)");
    past(0, -1, 0);
    past(0, -2, 1022);
    past(0, -128, 770);
    past(1022, 0, 0);
    past(1022, -1, 1022);
    past(1022, 1, 2);
    past(1022, 127, 254);
    past(1022, -128, 768);
    past(1020, 0, 1022);
    past(1020, 1, 0);
    past(768, 127, 0);
    past(766, 127, 1022);
  }

  private static void conditionsTurn() {
    checks.sentence("10h always, 11h neither A nor E, 12h not L or E, 13h E, 14h L or E, 15h A, 16h not E, "
        + "17h not C, 18h C, 19h not O, 1Ah neither L nor E, 1Bh L and not E, 1Ch P");
    for (int[] row : TURNS) {
      String name = Integer.toHexString(row[0]) + "h";
      bench(name + " taken").status(row[1]).program(Code.near(row[0], -3)).run(0).hasCounter(252).hasStatus(row[1]);
      bench(name + " not taken").status(row[2]).program(Code.near(row[0], -3)).run(0).hasCounter(258)
          .hasStatus(row[2]);
    }
  }

  private static void alwaysIsAlways() {
    checks.sentence("10h always");
    for (int bit = 0; bit < 16; bit++) {
      bench("only bit " + bit).status(1 << bit).program(Code.near(ALWAYS, 9)).run(0).hasCounter(276);
    }
    bench("no bit").program(Code.near(ALWAYS, 9)).run(0).hasCounter(276);
    bench("all bits").status(0xFFFF).program(Code.near(ALWAYS, 9)).run(0).hasCounter(276);
  }

  /** Neither the distance nor the end of the memory counts for a jump that is not taken. */
  private static void jumpsNotTaken() {
    checks.sentence("PC grows by twice the lower half (with sign) if");
    for (int distance : new int[] {-128, -1, 0, 1, 127}) {
      bench("13h by " + distance).program(Code.near(0x13, distance)).run(0).hasCounter(258);
    }
    bench("13h at the last word").word(1022, Code.near(0x13, 5))
        .program(Code.one(1, Code.operand(Code.INDEXED, 0)), 1022).run(0, 0).hasCounter(0);
  }

  private static void linesBecome() {
    checks.sentence("1Dh, 1Eh: the line R12 / 2 plus the lower half (with sign) becomes 1, 0");
    int[][] rows = {{0, 0}, {0, 63}, {0, 64}, {0, 127}, {0, -1}, {0, -128}, {64, -32}, {64, -33}, {64, 31}, {64, 32}};
    for (int[] row : rows) {
      int number = Math.floorMod(row[0] / 2 + row[1], 64);
      String name = "R12 " + row[0] + " and " + row[1];
      bench(name + " becomes 1").status(0xFFFF).register(12, row[0]).program(Code.near(0x1D, row[1]))
          .run(0).hasLines(number + 63, "010").hasStatus(0xFFFF).hasCounter(258);
      bench(name + " stays 1").register(12, row[0]).wires(number, "1").program(Code.near(0x1D, row[1]))
          .run(0).hasLines(number + 63, "010").hasStatus(0);
      bench(name + " becomes 0").status(0xFFFF).register(12, row[0]).wires(number + 63, "111")
          .program(Code.near(0x1E, row[1])).run(0).hasLines(number + 63, "101").hasStatus(0xFFFF).hasCounter(258);
      bench(name + " stays 0").register(12, row[0]).wires(number + 63, "101").program(Code.near(0x1E, row[1]))
          .run(0).hasLines(number + 63, "101").hasStatus(0);
    }
  }

  private static void linesAreAsked() {
    checks.sentence("1Fh: E becomes it");
    for (int distance : new int[] {0, 1, 63, 64, 127, -1, -64, -65, -128}) {
      int number = Math.floorMod(distance, 64);
      bench("1 at " + distance).status(0xFFFF - Due.E).wires(number, "1").program(Code.near(0x1F, distance))
          .run(0).hasStatus(0xFFFF).hasLines(number, "1").hasCounter(258);
      bench("0 at " + distance).status(0xFFFF).wires(number + 63, "101").program(Code.near(0x1F, distance))
          .run(0).hasStatus(0xFFFF - Due.E).hasLines(number + 63, "101");
    }
  }

  private static void linesByHalfOfR12() {
    checks.sentence("the line R12 / 2 plus the lower half");
    int[][] rows = {{1, 0}, {2, 1}, {3, 1}, {126, 63}, {127, 63}, {128, 0}, {129, 0}, {0x7FFF, 63}, {0x8000, 0},
      {0xFFFE, 63}, {0xFFFF, 63}};
    for (int[] row : rows) {
      bench("R12 " + row[0]).register(12, row[0]).program(Code.near(0x1D, 0)).run(0).hasLines(row[1] + 63, "010")
          .hasRegister(12, row[0]);
    }
  }
}
