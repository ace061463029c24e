/** The edges of "Terms", eighth paragraph: shifts. */
public final class ShiftEdgesTest {
  private static final Checks checks = new Checks("ShiftEdgesTest");
  private static final int DOWN_SIGNED = 0x08;
  private static final int DOWN = 0x09;
  private static final int UP = 0x0A;
  private static final int ROUND = 0x0B;

  public static void main(String[] args) {
    countsInTheCode();
    countsInR0();
    sixteenForTwoZeros();
    r0ByItself();
    everyRegister();
    highestStays();
    highestBitChanged();
    overflowStays();
    carriesTurn();
    checks.end();
  }

  private static Bench bench(String name) {
    return new Bench(checks, name);
  }

  private static String hex(int v) {
    return Integer.toHexString(v) + "h";
  }

  /** Reckoned at once by quotients and products, not bit by bit. */
  private static int shifted(int kind, int v, int count) {
    long all = 1L << count;
    switch (kind) {
      case DOWN_SIGNED:
        return (int) Math.floorDiv(v < 0x8000 ? v : v - 0x10000, all) & 0xFFFF;
      case DOWN:
        return (int) (v / all);
      case UP:
        return (int) (v * all % 0x10000);
      default:
        return (int) ((v * 0x10001L) / all % 0x10000);
    }
  }

  private static boolean carried(int kind, int v, int count) {
    if (kind == UP) {
      return (v * (1L << count) & 0x10000) != 0;
    }
    long whole = kind == DOWN_SIGNED && v >= 0x8000 ? v | 0xFFFF0000L : v;
    return (whole >> count - 1) % 2 == 1;
  }

  private static boolean highestChanges(int v, int count) {
    // While the highest bit stays, all bits that come to its place are as it is.
    long wide = (long) v << 16;
    long top = wide >> 31 - count & (1L << count + 1) - 1;
    return top != 0 && top != (1L << count + 1) - 1;
  }

  private static int status(int before, int kind, int v, int count) {
    int bits = Due.tested(shifted(kind, v, count)) | (carried(kind, v, count) ? Due.C : 0);
    if (kind != UP) {
      return Due.status(before, Due.TESTED | Due.C, bits);
    }
    return Due.status(before, Due.SUMMED, bits | (highestChanges(v, count) ? Due.O : 0));
  }

  private static void due(int kind, int v, int written, int r0, int count) {
    for (int before : new int[] {0x0000, 0xFFFF}) {
      bench(hex(kind) + " of " + hex(v) + " by " + written + " with R0 " + hex(r0)).status(before).register(0, r0)
          .register(6, v).program(Code.shift(kind, written, 6)).run(0).hasRegister(6, shifted(kind, v, count))
          .hasRegister(0, r0).hasStatus(status(before, kind, v, count)).hasCounter(258);
    }
  }

  private static void countsInTheCode() {
    checks.sentence("Rn (bits 3 .. 0) is shifted by bits 7 .. 4");
    for (int kind = DOWN_SIGNED; kind <= ROUND; kind++) {
      for (int count = 1; count < 16; count++) {
        for (int v : Due.WORDS) {
          // R0 says another count, which must not be asked for.
          due(kind, v, count, 0xFFF0 | 15 - count, count);
        }
      }
    }
  }

  private static void countsInR0() {
    checks.sentence("or, if these are 0, by the lowest four bits of R0");
    for (int kind = DOWN_SIGNED; kind <= ROUND; kind++) {
      for (int count = 1; count < 16; count++) {
        for (int v : new int[] {0x0001, 0x7FFF, 0x8000, 0xA5C3, 0xFFFF}) {
          due(kind, v, 0, count, count);
          due(kind, v, 0, 0xFFF0 | count, count);
        }
      }
    }
  }

  private static void sixteenForTwoZeros() {
    checks.sentence("or, if these are 0, by 16");
    for (int kind = DOWN_SIGNED; kind <= ROUND; kind++) {
      for (int v : Due.WORDS) {
        due(kind, v, 0, 0x0000, 16);
        due(kind, v, 0, 0xFFF0, 16);
        due(kind, v, 0, 0x0010, 16);
      }
    }
    bench("16 down with sign").register(6, 0x8000).program(Code.shift(DOWN_SIGNED, 0, 6))
        .run(0).hasRegister(6, 0xFFFF).hasStatus(Due.L | Due.C);
    bench("16 down").register(6, 0xFFFF).program(Code.shift(DOWN, 0, 6)).run(0).hasRegister(6, 0)
        .hasStatus(Due.E | Due.C);
    bench("16 up").register(6, 0xFFFF).program(Code.shift(UP, 0, 6)).run(0).hasRegister(6, 0)
        .hasStatus(Due.E | Due.C | Due.O);
    bench("16 round").register(6, 0xA5C3).program(Code.shift(ROUND, 0, 6)).run(0).hasRegister(6, 0xA5C3)
        .hasStatus(Due.L | Due.C);
  }

  private static void r0ByItself() {
    checks.sentence("by the lowest four bits of R0");
    for (int kind = DOWN_SIGNED; kind <= ROUND; kind++) {
      for (int r0 : new int[] {0x0000, 0x0001, 0x000F, 0x8000, 0x8001, 0xFFF0, 0xFFFF}) {
        int count = r0 % 16 == 0 ? 16 : r0 % 16;
        bench(hex(kind) + " of R0 " + hex(r0) + " by itself").register(0, r0).program(Code.shift(kind, 0, 0))
            .run(0).hasRegister(0, shifted(kind, r0, count)).hasStatus(status(0, kind, r0, count));
        bench(hex(kind) + " of R0 " + hex(r0) + " by 3").register(0, r0).program(Code.shift(kind, 3, 0))
            .run(0).hasRegister(0, shifted(kind, r0, 3)).hasStatus(status(0, kind, r0, 3));
      }
    }
  }

  private static void everyRegister() {
    checks.sentence("Rn (bits 3 .. 0) is shifted");
    for (int n = 0; n < 16; n++) {
      bench("R" + n).register(n, 0x0030).program(Code.shift(DOWN, 4, n)).run(0).hasRegister(n, 3)
          .hasRegister(n + 1, 0);
    }
  }

  private static void highestStays() {
    checks.sentence("08h down, the highest stays, 09h down, 0 comes in, 0Ah up, 0 comes in, 0Bh down, "
        + "what falls out comes in");
    int[][] rows = {{DOWN_SIGNED, 0x8000, 0xC000}, {DOWN_SIGNED, 0x4000, 0x2000}, {DOWN_SIGNED, 0x0001, 0x0000},
      {DOWN, 0x8000, 0x4000}, {DOWN, 0x0001, 0x0000}, {UP, 0x8000, 0x0000}, {UP, 0x0001, 0x0002},
      {UP, 0xFFFF, 0xFFFE}, {ROUND, 0x0001, 0x8000}, {ROUND, 0x8000, 0x4000}, {ROUND, 0xFFFE, 0x7FFF}};
    for (int[] row : rows) {
      bench(hex(row[0]) + " of " + hex(row[1]) + " by 1").register(6, row[1]).program(Code.shift(row[0], 1, 6))
          .run(0).hasRegister(6, row[2]);
    }
  }

  private static void up(int v, int count, int result, int status) {
    bench(hex(v) + " up by " + count).register(6, v).register(0, 0).program(Code.shift(UP, count & 15, 6))
        .run(0).hasRegister(6, result).hasStatus(status);
  }

  private static void highestBitChanged() {
    checks.sentence("0Ah: O is whether the highest bit changed at some time");
    up(0x3FFF, 1, 0x7FFE, Due.L | Due.A);
    up(0x4000, 1, 0x8000, Due.L | Due.O);
    up(0xBFFF, 1, 0x7FFE, Due.L | Due.A | Due.C | Due.O);
    up(0xC000, 1, 0x8000, Due.L | Due.C);
    // It changed and changed back: the first and the last one tell nothing.
    up(0x4000, 2, 0x0000, Due.E | Due.C | Due.O);
    up(0xA000, 2, 0x8000, Due.L | Due.O);
    up(0x5555, 2, 0x5554, Due.L | Due.A | Due.C | Due.O);
    up(0x0001, 14, 0x4000, Due.L | Due.A);
    up(0x0001, 15, 0x8000, Due.L | Due.O);
    up(0x0001, 16, 0x0000, Due.E | Due.C | Due.O);
    up(0xFFFF, 15, 0x8000, Due.L | Due.C);
    up(0xFFFF, 16, 0x0000, Due.E | Due.C | Due.O);
    up(0x0000, 16, 0x0000, Due.E);
    up(0x8000, 1, 0x0000, Due.E | Due.C | Due.O);
    up(0x8000, 2, 0x0000, Due.E | Due.O);
  }

  private static void overflowStays() {
    checks.sentence("0Ah: O is whether");
    for (int kind : new int[] {DOWN_SIGNED, DOWN, ROUND}) {
      bench(hex(kind) + " leaves O 1").status(Due.O).register(6, 0x0002).program(Code.shift(kind, 1, 6))
          .run(0).hasStatus(Due.L | Due.A | Due.O);
      bench(hex(kind) + " leaves O 0, the highest bit changes").register(6, 0x0003)
          .program(Code.shift(kind, 2, 6), Code.immediate(6, 7)).run(0, 0)
          .hasRegister(7, kind == ROUND ? Due.L | Due.C : Due.E | Due.C);
    }
  }

  private static void carriesTurn() {
    checks.sentence("C is the bit that fell out last");
    for (int count = 1; count < 16; count++) {
      int last = 1 << count - 1;
      int others = 0xFFFF - last;
      for (int kind : new int[] {DOWN_SIGNED, DOWN, ROUND}) {
        carry(kind, last, count, true);
        carry(kind, others, count, false);
      }
      carry(UP, 1 << 16 - count, count, true);
      carry(UP, 0xFFFF - (1 << 16 - count), count, false);
    }
  }

  private static void carry(int kind, int v, int count, boolean due) {
    Bench b = bench(hex(kind) + " of " + hex(v)).status(due ? 0 : Due.C).register(6, v)
        .program(Code.shift(kind, count, 6)).run(0);
    checks.same(hex(kind) + " of " + hex(v) + " by " + count + ": C", b.machine.state(2) & Due.C, due ? Due.C : 0);
  }
}
