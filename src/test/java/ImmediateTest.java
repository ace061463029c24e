/** Promise 5: 0200h .. 03FFh. */
public final class ImmediateTest {
  private static final Checks checks = new Checks("ImmediateTest");

  /** Operation, ST before, Rn, m, result, ST after. */
  private static final int[][] ROWS = {
    {0, 0x3C0F, 0x1111, 0x8000, 0x8000, 0x9C0F},
    {0, 0x0000, 0x1111, 0x0000, 0x0000, 0x2000},
    {0, 0x0000, 0x1111, 0x7FFF, 0x7FFF, 0xC000},
    {1, 0x1C0F, 0x0001, 0x0002, 0x0003, 0xC40F},
    {1, 0x0000, 0xFFFF, 0x0001, 0x0000, 0x3000},
    {1, 0x0000, 0x7FFF, 0x0001, 0x8000, 0x8800},
    {1, 0x0000, 0x8000, 0xFFFF, 0x7FFF, 0xD800},
    {2, 0x1C00, 0xF0F0, 0xFF00, 0xF000, 0x9C00},
    {2, 0x0000, 0xF0F0, 0x0F0F, 0x0000, 0x2000},
    {3, 0x1C00, 0x0F0F, 0x00F0, 0x0FFF, 0xDC00},
    {3, 0x0000, 0x0000, 0x0000, 0x0000, 0x2000},
    {3, 0x0000, 0x0F0F, 0x0F0F, 0x0F0F, 0xC000},
    {4, 0x1C00, 0x8000, 0x7FFF, 0x8000, 0x9C00},
    {4, 0x0000, 0x7FFF, 0x8000, 0x7FFF, 0x4000},
    {4, 0xC000, 0x7FFF, 0x7FFF, 0x7FFF, 0x2000},
    {4, 0x0000, 0x0005, 0x0004, 0x0005, 0xC000},
    {4, 0xE000, 0x0004, 0x0005, 0x0004, 0x0000},
  };

  public static void main(String[] args) {
    for (int[] row : ROWS) {
      new Bench(checks, "operation " + row[0] + " on " + row[2] + " and " + row[3]).status(row[1])
          .register(9, row[2]).program(Code.immediate(row[0], 9), row[3])
          .run(0).hasRegister(9, row[4]).hasStatus(row[5]).hasCounter(260);
    }
    pointers();
    masks();
    returns();
    idle();
    nothing();
    checks.end();
  }

  private static void pointers() {
    new Bench(checks, "Rn becomes WP").status(0x2005).program(Code.immediate(5, 9))
        .run(0).hasRegister(9, 512).hasStatus(0x2005).hasCounter(258);
    new Bench(checks, "Rn becomes ST").status(0xA9C5).program(Code.immediate(6, 9))
        .run(0).hasRegister(9, 0xA9C5).hasStatus(0xA9C5).hasCounter(258);
    new Bench(checks, "WP becomes m").status(0x2005).program(Code.immediate(7, 9), 0xFD23)
        .run(0).hasWorkspace(0x122).hasStatus(0x2005).hasCounter(260).hasRegister(9, 0).hasWord(0x122 + 18, 0);
  }

  private static void masks() {
    new Bench(checks, "the mask becomes m").status(0xABC5).program(Code.immediate(8, 3), 0xFFFA)
        .run(0).hasStatus(0xABCA).hasCounter(260).hasRegister(3, 0);
    new Bench(checks, "the mask becomes 0").status(0xFFFF).program(Code.immediate(11, 3))
        .run(0).hasStatus(0xFFF0).hasCounter(258);
  }

  private static void returns() {
    new Bench(checks, "return").status(0x0001).register(13, 0xFD23).register(14, 0xFE47).register(15, 0xFFFF)
        .program(Code.immediate(12, 7)).run(0).hasWorkspace(0x122).hasCounter(0x246).hasStatus(0xFFFF)
        .hasRegister(13, 0xFD23).hasRegister(14, 0xFE47).hasRegister(15, 0xFFFF);
  }

  private static void idle() {
    new Bench(checks, "IDLE").status(0xF00F).program(Code.immediate(10, 7), Code.immediate(0, 1), 5)
        .run(1).hasState(4, 1).hasCounter(258).hasStatus(0xF00F).run(1).hasCounter(258).hasRegister(1, 0);
  }

  private static void nothing() {
    for (int operation = 13; operation < 16; operation++) {
      new Bench(checks, "operation " + operation).status(0xFFFF).register(7, 0x1234)
          .program(Code.immediate(operation, 7)).run(0).hasStatus(0xFFFF).hasCounter(258).hasRegister(7, 0x1234)
          .hasWorkspace(512).hasState(4, 0);
    }
  }
}
