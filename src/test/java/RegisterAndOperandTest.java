/** Promise 5: the instructions with the highest six bits 8 .. 11, 14 and 15 (12 and 13 are in LinesTest). */
public final class RegisterAndOperandTest {
  private static final Checks checks = new Checks("RegisterAndOperandTest");

  /** Operation, ST before, s, RD, result, ST after. */
  private static final int[][] ROWS = {
    {8, 0x0C0F, 0x0F00, 0xFF00, 0xFF00, 0x2C0F},
    {8, 0xFC0F, 0x0F01, 0xFF00, 0xFF00, 0xDC0F},
    {8, 0x0000, 0x0000, 0x0000, 0x0000, 0x2000},
    {9, 0x0C0F, 0x00FF, 0xFF00, 0xFF00, 0x2C0F},
    {9, 0xFC0F, 0x01FF, 0xFF00, 0xFF00, 0xDC0F},
    {9, 0x0000, 0x0000, 0xFFFF, 0xFFFF, 0x2000},
    {10, 0x1C00, 0x0FF0, 0xFFFF, 0xF00F, 0x9C00},
    {10, 0xC000, 0x1234, 0x1234, 0x0000, 0x2000},
    {10, 0x0000, 0x8001, 0x8000, 0x0001, 0xC000},
  };

  public static void main(String[] args) {
    for (int[] row : ROWS) {
      new Bench(checks, row[0] + " of " + row[2] + " and " + row[3]).status(row[1]).register(1, row[2])
          .register(7, row[3]).program(Code.register(row[0], 7, 1))
          .run(0).hasRegister(7, row[4]).hasRegister(1, row[2]).hasStatus(row[5]).hasCounter(258);
    }
    first();
    products();
    quotients();
    extendedCalls();
    extendedCallsTellTheAddress();
    checks.end();
  }

  private static void first() {
    new Bench(checks, "2000h").register(0, 0x1234).program(0x2000).run(0).hasStatus(0x2000).hasCounter(258)
        .hasRegister(0, 0x1234);
  }

  private static void product(int s, int d, int upper, int lower) {
    new Bench(checks, "product of " + s + " and " + d).status(0xFBF5).register(1, s).register(7, d).register(8, 9)
        .program(Code.register(14, 7, 1)).run(0).hasRegister(7, upper).hasRegister(8, lower).hasRegister(1, s)
        .hasStatus(0xFBF5);
  }

  private static void products() {
    product(3, 5, 0, 15);
    product(0xFFFF, 0xFFFF, 0xFFFE, 0x0001);
    product(0x8000, 0x0002, 0x0001, 0x0000);
    product(0, 0x1234, 0, 0);
    new Bench(checks, "product into R16").register(1, 0x1000).register(15, 0x1234)
        .program(Code.register(14, 15, 1)).run(0).hasRegister(15, 0x0123).hasRegister(16, 0x4000);
    new Bench(checks, "product with itself").register(7, 0x0100).program(Code.register(14, 7, 7))
        .run(0).hasRegister(7, 1).hasRegister(8, 0);
  }

  private static void quotient(int s, int upper, int lower, int quotient, int rest) {
    new Bench(checks, "quotient of " + upper + ", " + lower + " by " + s).status(0xFFF5).register(1, s)
        .register(7, upper).register(8, lower).program(Code.register(15, 7, 1))
        .run(0).hasRegister(7, quotient).hasRegister(8, rest).hasRegister(1, s).hasStatus(0xF7F5);
  }

  private static void noQuotient(int s, int upper, int lower) {
    new Bench(checks, "no quotient of " + upper + ", " + lower + " by " + s).status(0xF005).register(1, s)
        .register(7, upper).register(8, lower).program(Code.register(15, 7, 1))
        .run(0).hasRegister(7, upper).hasRegister(8, lower).hasStatus(0xF805);
  }

  private static void quotients() {
    quotient(3, 0, 17, 5, 2);
    quotient(3, 2, 0xFFFF, 0xFFFF, 2);
    quotient(0xFFFF, 0xFFFE, 0xFFFF, 0xFFFF, 0xFFFE);
    quotient(0x8000, 0x7FFF, 0xFFFF, 0xFFFF, 0x7FFF);
    quotient(0xC000, 0x9000, 0x1234, 0xC000, 0x1234);
    quotient(1, 0, 0xFFFF, 0xFFFF, 0);
    noQuotient(0, 0, 0);
    noQuotient(0, 0, 5);
    noQuotient(3, 3, 0);
    noQuotient(0x7FFF, 0x8000, 0);
    new Bench(checks, "quotient into R16").register(1, 0x1000).register(15, 0x0123).register(16, 0x4567)
        .program(Code.register(15, 15, 1)).run(0).hasRegister(15, 0x1234).hasRegister(16, 0x0567);
  }

  private static void extendedCalls() {
    for (int d = 0; d < 16; d++) {
      new Bench(checks, "extended call " + d).status(0xC1F4).word(64 + 4 * d, 0x8800 | 801).word(66 + 4 * d, 0x0443)
          .program(Code.register(11, d, 4)).run(0).hasWorkspace(800).hasCounter(0x42).hasStatus(0xC3F4)
          .hasWord(822, 520).hasWord(826, 512).hasWord(828, 258).hasWord(830, 0xC1F4);
    }
  }

  private static void extendedAddress(String name, int kind, int n, int next, int due, int returns) {
    new Bench(checks, "extended call with " + name).word(64, 800).word(66, 40).register(3, 305)
        .program(Code.register(11, 0, Code.operand(kind, n)), next).run(0).hasWord(822, due).hasWord(828, returns);
  }

  private static void extendedCallsTellTheAddress() {
    extendedAddress("the word at Rn", Code.INDIRECT, 3, 0, 305, 258);
    extendedAddress("the next word", Code.INDEXED, 0, 300, 300, 260);
    extendedAddress("the next word and Rn", Code.INDEXED, 3, 300, 605, 260);
    extendedAddress("a sum beyond 1023", Code.INDEXED, 3, 1000, 281, 260);
    extendedAddress("an address beyond 1023", Code.INDEXED, 0, 0xFFFF, 1023, 260);
    new Bench(checks, "extended call with a growing Rn").word(64, 800).word(66, 40).register(3, 300)
        .program(Code.register(11, 0, Code.operand(Code.GROWING, 3))).run(0).hasWord(822, 300).hasRegister(3, 302);
    Bench end = new Bench(checks, "extended call with a register past the end").program(0x02E0, 1020,
        Code.register(11, 0, 5)).word(64, 800).word(66, 40);
    end.run(0, 0).hasWord(822, 6);
  }
}
