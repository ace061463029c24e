/** Promise 5: 0400h .. 077Fh without X (which is in RefusedTest). */
public final class OneOperandTest {
  private static final Checks checks = new Checks("OneOperandTest");

  /** Operation, ST before, o, result, ST after. */
  private static final int[][] ROWS = {
    {3, 0xDFF5, 0x1234, 0x0000, 0xDFF5},
    {4, 0x1C0F, 0x0001, 0xFFFF, 0x840F},
    {4, 0x0000, 0xFFFF, 0x0001, 0xC000},
    {4, 0xC800, 0x0000, 0x0000, 0x3000},
    {4, 0x1000, 0x8000, 0x8000, 0x8800},
    {5, 0x1C0F, 0x00FF, 0xFF00, 0x9C0F},
    {5, 0x0000, 0xFFFF, 0x0000, 0x2000},
    {5, 0x0000, 0x8000, 0x7FFF, 0xC000},
    {6, 0x1C00, 0x0001, 0x0002, 0xC400},
    {6, 0x0000, 0xFFFF, 0x0000, 0x3000},
    {6, 0x0000, 0x7FFF, 0x8000, 0x8800},
    {7, 0x1800, 0x0001, 0x0003, 0xC000},
    {7, 0x0000, 0xFFFF, 0x0001, 0xD000},
    {7, 0x0000, 0x7FFE, 0x8000, 0x8800},
    {8, 0x0800, 0x0002, 0x0001, 0xD000},
    {8, 0x0000, 0x0001, 0x0000, 0x3000},
    {8, 0x1800, 0x0000, 0xFFFF, 0x8000},
    {8, 0x0000, 0x8000, 0x7FFF, 0xD800},
    {9, 0x0800, 0x0003, 0x0001, 0xD000},
    {9, 0x0000, 0x0002, 0x0000, 0x3000},
    {9, 0x1800, 0x0001, 0xFFFF, 0x8000},
    {9, 0x0000, 0x8001, 0x7FFF, 0xD800},
    {11, 0xFFF5, 0x12AB, 0xAB12, 0xFFF5},
    {11, 0x0000, 0x00FF, 0xFF00, 0x0000},
    {12, 0x2005, 0x1234, 0xFFFF, 0x2005},
    {13, 0x3C0F, 0x0001, 0x0001, 0xC40F},
    {13, 0x1800, 0xFFFF, 0x0001, 0x8000},
    {13, 0x1000, 0x8000, 0x8000, 0x8800},
    {13, 0x1800, 0x0000, 0x0000, 0x2000},
    {13, 0x0000, 0x7FFF, 0x7FFF, 0xC000},
  };

  public static void main(String[] args) {
    for (int[] row : ROWS) {
      check(row);
    }
    switches();
    branches();
    links();
    checks.end();
  }

  private static void check(int[] row) {
    String name = "operation " + row[0] + " on " + Integer.toHexString(row[2]) + "h";
    new Bench(checks, name).status(row[1]).register(5, row[2]).program(Code.one(row[0], 5))
        .run(0).hasRegister(5, row[3]).hasStatus(row[4]).hasCounter(258);
    new Bench(checks, name + ", growing").status(row[1]).register(5, 301).word(300, row[2])
        .program(Code.one(row[0], Code.operand(Code.GROWING, 5)))
        .run(0).hasWord(300, row[3]).hasRegister(5, 303).hasStatus(row[4]).hasCounter(258);
  }

  private static void switches() {
    int growing = Code.operand(Code.GROWING, 5);
    new Bench(checks, "switch").status(0xA5A5).register(5, 301).word(300, 0x4321).word(302, 0x8765)
        .program(Code.one(0, growing)).run(0).hasWorkspace(0x320).hasCounter(0x364).hasStatus(0xA5A5)
        .hasWord(0x320 + 26, 512).hasWord(0x320 + 28, 258).hasWord(0x320 + 30, 0xA5A5).hasRegister(5, 303);
    new Bench(checks, "0400h").register(0, 800).register(1, 90).program(0x0400)
        .run(0).hasWorkspace(800).hasCounter(90).hasWord(826, 512);
    new Bench(checks, "switch through Rn itself").register(5, 800).register(6, 90).program(Code.one(0, 5))
        .run(0).hasWorkspace(800).hasCounter(90);
    new Bench(checks, "switch through the last word").word(1022, 800).word(0, 90)
        .program(Code.one(0, Code.operand(Code.INDEXED, 0)), 1022)
        .run(0).hasWorkspace(800).hasCounter(90).hasWord(828, 260);
    new Bench(checks, "switch and back").status(0x9006).word(300, 800).word(302, 90).word(90, 0x0380)
        .program(Code.one(0, Code.operand(Code.INDEXED, 0)), 300)
        .run(0, 0).hasWorkspace(512).hasCounter(260).hasStatus(0x9006);
  }

  private static void branches() {
    new Bench(checks, "PC becomes Rn's address").status(0xF00F).register(5, 90).program(Code.one(1, 5))
        .run(0).hasCounter(522).hasStatus(0xF00F).hasRegister(11, 0);
    new Bench(checks, "PC becomes Rn's value").register(5, 0xFC5B).program(Code.one(1, Code.operand(Code.INDIRECT, 5)))
        .run(0).hasCounter(0x5A).hasRegister(5, 0xFC5B);
    new Bench(checks, "PC becomes a growing Rn's value").register(5, 90)
        .program(Code.one(1, Code.operand(Code.GROWING, 5))).run(0).hasCounter(90).hasRegister(5, 92);
    new Bench(checks, "PC becomes the next word and Rn").register(5, 90)
        .program(Code.one(1, Code.operand(Code.INDEXED, 5)), 1000).run(0).hasCounter(66);
  }

  private static void links() {
    new Bench(checks, "link").status(0xF00F).program(Code.one(10, Code.operand(Code.INDEXED, 0)), 91)
        .run(0).hasCounter(90).hasRegister(11, 260).hasStatus(0xF00F);
    new Bench(checks, "link through R11").register(11, 90).program(Code.one(10, Code.operand(Code.INDIRECT, 11)))
        .run(0).hasCounter(90).hasRegister(11, 258);
    new Bench(checks, "link through a growing R11").register(11, 90)
        .program(Code.one(10, Code.operand(Code.GROWING, 11))).run(0).hasCounter(90).hasRegister(11, 258);
  }
}
