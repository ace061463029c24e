/** Promise 5: 08h .. 0Bh as upper half. */
public final class ShiftTest {
  private static final Checks checks = new Checks("ShiftTest");
  private static final int DOWN_SIGNED = 0x08;
  private static final int DOWN = 0x09;
  private static final int UP = 0x0A;
  private static final int ROUND = 0x0B;

  /** Kind, ST before, count, value, result, ST after. */
  private static final int[][] ROWS = {
    {DOWN_SIGNED, 0x0C0F, 1, 0x8001, 0xC000, 0x9C0F},
    {DOWN_SIGNED, 0x1000, 1, 0x7FFE, 0x3FFF, 0xC000},
    {DOWN_SIGNED, 0x0000, 4, 0x0008, 0x0000, 0x3000},
    {DOWN_SIGNED, 0x1000, 3, 0x0010, 0x0002, 0xC000},
    {DOWN_SIGNED, 0x0000, 15, 0x8000, 0xFFFF, 0x8000},
    {DOWN_SIGNED, 0x0000, 15, 0xC000, 0xFFFF, 0x9000},
    {DOWN, 0x0C0F, 1, 0x8001, 0x4000, 0xDC0F},
    {DOWN, 0x1000, 15, 0x8000, 0x0001, 0xC000},
    {DOWN, 0x0000, 4, 0x0008, 0x0000, 0x3000},
    {DOWN, 0x0800, 8, 0xFF7F, 0x00FF, 0xC800},
    {UP, 0x0000, 1, 0x8001, 0x0002, 0xD800},
    {UP, 0x1800, 1, 0x2001, 0x4002, 0xC000},
    {UP, 0x0400, 1, 0x4000, 0x8000, 0x8C00},
    {UP, 0x0800, 1, 0xC000, 0x8000, 0x9000},
    {UP, 0x0000, 2, 0x4000, 0x0000, 0x3800},
    {UP, 0x0000, 3, 0xA000, 0x0000, 0x3800},
    {UP, 0x0000, 2, 0xA001, 0x8004, 0x8800},
    {UP, 0x0800, 4, 0xF800, 0x8000, 0x9000},
    {UP, 0x1800, 15, 0x0000, 0x0000, 0x2000},
    {ROUND, 0x0C0F, 1, 0x0001, 0x8000, 0x9C0F},
    {ROUND, 0x1000, 1, 0x8000, 0x4000, 0xC000},
    {ROUND, 0x0000, 4, 0x1234, 0x4123, 0xC000},
    {ROUND, 0x0000, 12, 0x1834, 0x8341, 0x9000},
    {ROUND, 0x1000, 7, 0x0000, 0x0000, 0x2000},
  };

  public static void main(String[] args) {
    for (int[] row : ROWS) {
      String name = "shift " + row[0] + " of " + Integer.toHexString(row[3]) + "h by " + row[2];
      new Bench(checks, name).status(row[1]).register(0, 0x1235).register(6, row[3])
          .program(Code.shift(row[0], row[2], 6)).run(0).hasRegister(6, row[4]).hasStatus(row[5]).hasCounter(258);
    }
    countsInR0();
    sixteen();
    r0ItselfIsShifted();
    checks.end();
  }

  private static void countsInR0() {
    new Bench(checks, "count in R0").register(0, 0xFFF3).register(6, 0x0124).program(Code.shift(DOWN, 0, 6))
        .run(0).hasRegister(6, 0x0024).hasRegister(0, 0xFFF3).hasStatus(0xD000);
  }

  private static void sixteen() {
    new Bench(checks, "16 down with sign").register(0, 0xFFF0).register(6, 0x8000)
        .program(Code.shift(DOWN_SIGNED, 0, 6)).run(0).hasRegister(6, 0xFFFF).hasStatus(0x9000);
    new Bench(checks, "16 down").register(6, 0x8000).program(Code.shift(DOWN, 0, 6))
        .run(0).hasRegister(6, 0).hasStatus(0x3000);
    new Bench(checks, "16 up").register(6, 0x0001).program(Code.shift(UP, 0, 6))
        .run(0).hasRegister(6, 0).hasStatus(0x3800);
    new Bench(checks, "16 round").register(6, 0x9234).program(Code.shift(ROUND, 0, 6))
        .run(0).hasRegister(6, 0x9234).hasStatus(0x9000);
    new Bench(checks, "16 round, 0 on top").status(0x1000).register(6, 0x1234).program(Code.shift(ROUND, 0, 6))
        .run(0).hasRegister(6, 0x1234).hasStatus(0xC000);
  }

  private static void r0ItselfIsShifted() {
    new Bench(checks, "R0 by itself").register(0, 0x0102).program(Code.shift(UP, 0, 0))
        .run(0).hasRegister(0, 0x0408).hasStatus(0xC000);
  }
}
