/** The edges of "Terms", first paragraph: words, bytes, addresses, lines, WP, PC and registers. */
public final class AddressEdgesTest {
  private static final Checks checks = new Checks("AddressEdgesTest");
  private static final int ADD = 10;
  private static final int MOVE = 12;
  private static final int MOVE_BYTE = 13;
  private static final int SET_WORKSPACE = 0x02E0;
  private static final int RETURN = 0x0380;

  public static void main(String[] args) {
    wordsOfMemory();
    addressesCountModulo1024();
    countersCountModulo1024();
    switchesCountModulo1024();
    wordsIgnoreTheLowestBit();
    switchesIgnoreTheLowestBit();
    bytesAreHalves();
    linesCountModulo64();
    workspacesAreEven();
    countersAreEven();
    registersLieInMemory();
    register16();
    checks.end();
  }

  private static Bench bench(String name) {
    return new Bench(checks, name);
  }

  private static int indirect(int n) {
    return Code.operand(Code.INDIRECT, n);
  }

  private static int indexed(int n) {
    return Code.operand(Code.INDEXED, n);
  }

  private static int growing(int n) {
    return Code.operand(Code.GROWING, n);
  }

  private static void wordsOfMemory() {
    checks.sentence("MEMORY has 512 WORDS of 16 bits (0 .. 65535), at even ADDRESSES 0 .. 1022");
    for (int address : new int[] {0, 2, 1020, 1022}) {
      for (int v : new int[] {0, 1, 0x7FFF, 0x8000, 0xFFFF}) {
        bench(v + " goes to " + address).word((address + 2) & 1023, 0x1111).word((address - 2) & 1023, 0x2222)
            .word(address, 0x5A5A).register(1, v).register(2, address).program(Code.two(MOVE, 1, indirect(2)))
            .run(0).hasWord(address, v).hasWord((address + 2) & 1023, 0x1111).hasWord((address - 2) & 1023, 0x2222);
      }
    }
  }

  private static void addressesCountModulo1024() {
    checks.sentence("addresses count modulo 1024");
    for (int beyond : new int[] {1024, 2048, 0x8000, 0xFC00}) {
      bench("Rn is beyond by " + beyond).register(2, beyond + 300).word(300, 0x1234)
          .program(Code.two(MOVE, indirect(2), 1)).run(0).hasRegister(1, 0x1234).hasRegister(2, beyond + 300);
      bench("Rn grows beyond by " + beyond).register(2, (beyond + 1022) & 0xFFFF).word(1022, 0x1234).word(0, 0x4321)
          .program(Code.two(MOVE, growing(2), 1), Code.two(MOVE, growing(2), 3))
          .run(0).hasRegister(1, 0x1234).hasRegister(2, (beyond + 1024) & 0xFFFF).run(0).hasRegister(3, 0x4321);
      bench("the next word is beyond by " + beyond).register(1, 7).word(300, 5)
          .program(Code.two(ADD, 1, indexed(0)), beyond + 300).run(0).hasWord(300, 12);
      bench("the byte is beyond by " + beyond).register(2, beyond + 301).word(300, 0x1234)
          .program(Code.two(MOVE_BYTE, indirect(2), 1)).run(0).hasRegister(1, 0x3400);
    }
    bench("1023 and 1 are 0").register(2, 1023).word(0, 0x1234).program(Code.two(MOVE_BYTE, indexed(2), 1), 1)
        .run(0).hasRegister(1, 0x1200);
    bench("FFFFh and 1 are 0").register(2, 0xFFFF).word(0, 0x1234).program(Code.two(MOVE, indexed(2), 1), 1)
        .run(0).hasRegister(1, 0x1234);
    bench("FFFFh and FFFFh are 1022").register(2, 0xFFFF).word(1022, 0x1234)
        .program(Code.two(MOVE, indexed(2), 1), 0xFFFF).run(0).hasRegister(1, 0x1234);
  }

  private static void countersCountModulo1024() {
    checks.sentence("addresses count modulo 1024");
    Bench words = bench("the program's own words go on at 0").word(1022, Code.immediate(0, 1)).word(0, 0x1234)
        .word(2, Code.immediate(1, 1)).word(4, 1).program(Code.one(1, indexed(0)), 1022);
    words.run(0).hasCounter(1022).run(0).hasRegister(1, 0x1234).hasCounter(2).run(0).hasRegister(1, 0x1235);
    Bench both = bench("two words of operands go on at 0").word(1020, Code.two(MOVE, indexed(0), indexed(0)))
        .word(1022, 300).word(0, 302).word(300, 0x1234).program(Code.one(1, indexed(0)), 1020);
    both.run(0, 0).hasWord(302, 0x1234).hasCounter(2);
    bench("the fetch at the last word goes on at 0").word(1022, 0x03A0).program(Code.one(1, indexed(0)), 1022)
        .run(0, 0).hasCounter(0);
  }

  private static void switchesCountModulo1024() {
    checks.sentence("addresses count modulo 1024");
    bench("a switch through the last word").word(1022, 800).word(0, 90).program(Code.one(0, indexed(0)), 1022)
        .run(0).hasWorkspace(800).hasCounter(90);
    bench("a switch through an address beyond").word(300, 800).word(302, 90)
        .program(Code.one(0, indexed(0)), 0xFC00 + 300).run(0).hasWorkspace(800).hasCounter(90);
    // The workspace at 996 has R13 at 1022, R14 at 0 and R15 at 2.
    bench("what a switch keeps goes on at 0").status(0x1235).word(300, 996).word(302, 90)
        .program(Code.one(0, indexed(0)), 300).run(0).hasWorkspace(996)
        .hasWord(1022, 512).hasWord(0, 260).hasWord(2, 0x1235).word(90, RETURN).run(0).hasWorkspace(512)
        .hasCounter(260).hasStatus(0x1235);
  }

  private static void wordsIgnoreTheLowestBit() {
    checks.sentence("a word's ignores its lowest bit");
    bench("source by Rn").register(2, 301).word(300, 0x1234).program(Code.two(MOVE, indirect(2), 1))
        .run(0).hasRegister(1, 0x1234).hasRegister(2, 301);
    bench("source by an odd sum").register(2, 1).word(300, 0x1234).program(Code.two(MOVE, indexed(2), 1), 300)
        .run(0).hasRegister(1, 0x1234);
    bench("source by an odd next word").word(1022, 0x1234).program(Code.two(MOVE, indexed(0), 1), 1023)
        .run(0).hasRegister(1, 0x1234);
    bench("two odd parts make an even sum").register(2, 1).word(302, 0x1234).word(300, 0x4321)
        .program(Code.two(MOVE, indexed(2), 1), 301).run(0).hasRegister(1, 0x1234);
    bench("a growing Rn stays odd").register(2, 301).word(300, 0x1234).program(Code.two(MOVE, growing(2), 1))
        .run(0).hasRegister(1, 0x1234).hasRegister(2, 303);
    bench("destination by Rn").register(1, 7).register(2, 301).word(300, 5).word(302, 9)
        .program(Code.two(ADD, 1, indirect(2))).run(0).hasWord(300, 12).hasWord(302, 9);
    bench("the last word by 1023").register(1, 7).register(2, 1023).word(1022, 5)
        .program(Code.two(ADD, 1, growing(2))).run(0).hasWord(1022, 12).hasWord(0, 0).hasRegister(2, 1025);
    bench("one operand").register(2, 301).word(300, 5).program(Code.one(6, indirect(2))).run(0).hasWord(300, 6);
    bench("register and operand").register(2, 301).register(1, 0x00FF).word(300, 0x0F0F)
        .program(Code.register(10, 1, indirect(2))).run(0).hasRegister(1, 0x0FF0);
    bench("nine lines").register(2, 301).word(300, 0x0101).program(Code.register(12, 9, indirect(2)))
        .run(0).hasLines(0, "1000000010");
    bench("X").register(2, 301).word(300, Code.one(6, 1)).program(Code.one(2, indirect(2))).run(0).hasRegister(1, 1);
  }

  private static void switchesIgnoreTheLowestBit() {
    checks.sentence("a word's ignores its lowest bit");
    bench("a switch through an odd address").word(300, 800).word(302, 90).program(Code.one(0, indexed(0)), 301)
        .run(0).hasWorkspace(800).hasCounter(90);
    bench("a switch through 1023").word(1022, 800).word(0, 90).program(Code.one(0, indexed(0)), 1023)
        .run(0).hasWorkspace(800).hasCounter(90);
    // R13 of a workspace that is said to begin at 801 is the word at 827, which is that at 826.
    bench("a switch to an odd workspace").word(300, 801).word(302, 90).program(Code.one(0, indexed(0)), 300)
        .run(0).hasWorkspace(800).hasWord(826, 512).hasWord(828, 260).hasWord(830, 0);
  }

  private static void bytesAreHalves() {
    checks.sentence("The BYTE at an even address is the upper half of the word, at an odd one the lower half.");
    for (int address : new int[] {0, 300, 1022}) {
      bench("upper half from " + address).register(2, address).word(address, 0x1234)
          .program(Code.two(MOVE_BYTE, indirect(2), 1)).run(0).hasRegister(1, 0x1200).hasWord(address, 0x1234);
      bench("lower half from " + (address + 1)).register(2, address + 1).word(address, 0x1234)
          .program(Code.two(MOVE_BYTE, indirect(2), 1)).run(0).hasRegister(1, 0x3400).hasWord(address, 0x1234);
      bench("upper half to " + address).register(1, 0xAB99).register(2, address).word(address, 0x1234)
          .program(Code.two(MOVE_BYTE, 1, indirect(2))).run(0).hasWord(address, 0xAB34);
      bench("lower half to " + (address + 1)).register(1, 0xAB99).register(2, address + 1).word(address, 0x1234)
          .program(Code.two(MOVE_BYTE, 1, indirect(2))).run(0).hasWord(address, 0x12AB);
    }
    bench("lower half to upper half of a word").register(2, 301).register(3, 300).word(300, 0x1234)
        .program(Code.two(MOVE_BYTE, indirect(2), indirect(3))).run(0).hasWord(300, 0x3434);
  }

  private static void linesCountModulo64() {
    checks.sentence("There are 64 LINES, of one bit, numbered modulo 64.");
    int[][] rows = {{0, 0, 0}, {126, 0, 63}, {126, 1, 0}, {128, 0, 0}, {0, -1, 63}, {0, -64, 0}, {0, -65, 63},
      {0, 127, 63}, {0, -128, 0}, {0xFFFE, 0, 63}, {0xFFFF, 1, 0}, {0xFFFF, 127, 62}, {0xFFFF, -128, 63}};
    for (int[] row : rows) {
      String name = "R12 " + row[0] + " and " + row[1];
      int beside = (row[2] + 1) & 63;
      bench(name + " set").register(12, row[0]).program(Code.near(0x1D, row[1]))
          .run(0).hasLines(row[2] + 63, "010");
      bench(name + " cleared").register(12, row[0]).wires(row[2] + 63, "111").program(Code.near(0x1E, row[1]))
          .run(0).hasLines(row[2] + 63, "101");
      bench(name + " asked").register(12, row[0]).wires(row[2], "1").program(Code.near(0x1F, row[1]))
          .run(0).hasStatus(Due.E).hasLines(beside, "0");
    }
    bench("16 lines from 56 on").register(12, 112).register(1, 0x8181).wires(55, "1").wires(8, "1")
        .program(Code.register(12, 0, 1)).run(0).hasLines(55, "1" + "1000000110000001" + "1");
    bench("16 lines of 56 and on").register(12, 112).wires(55, "1" + "1000000110000001" + "1")
        .program(Code.register(13, 0, 1)).run(0).hasRegister(1, 0x8181);
    bench("lines from the greatest R12 on").register(12, 0xFFFF).register(1, 0x0300).wires(62, "1")
        .program(Code.register(12, 3, 1)).run(0).hasLines(62, "11100");
  }

  private static void workspacesAreEven() {
    checks.sentence("WP and PC are even addresses: what they become loses its other bits.");
    int[][] rows = {{0, 0}, {1, 0}, {2, 2}, {1022, 1022}, {1023, 1022}, {1024, 0}, {0xFC01, 0}, {0xFFFF, 1022}};
    for (int[] row : rows) {
      String name = "WP becomes " + row[0];
      bench(name + " by 02E0h").program(SET_WORKSPACE, row[0]).run(0).hasWorkspace(row[1]);
      bench(name + " by 0380h").register(13, row[0]).register(14, 90).program(RETURN).run(0).hasWorkspace(row[1]);
      bench(name + " by a switch").word(300, row[0]).word(302, 90).program(Code.one(0, indexed(0)), 300)
          .run(0).hasWorkspace(row[1]);
      bench(name + " by an extended call").word(64, row[0]).word(66, 90).program(Code.register(11, 0, 1))
          .run(0).hasWorkspace(row[1]);
      Bench reset = bench(name + " by reset").word(0, row[0]).word(2, 90);
      reset.machine.reset();
      reset.hasWorkspace(row[1]);
      Bench level = bench(name + " by a level").word(0, row[0]).word(2, 90);
      level.machine.level(0);
      level.run(0).hasWorkspace(row[1]);
    }
    bench("Rn becomes WP without them").program(SET_WORKSPACE, 0xFF01, Code.immediate(5, 1))
        .run(0, 0).hasWord(0x302, 0x300);
  }

  private static void countersAreEven() {
    checks.sentence("WP and PC are even addresses: what they become loses its other bits.");
    int[][] rows = {{0, 0}, {1, 0}, {2, 2}, {1022, 1022}, {1023, 1022}, {1024, 0}, {0xFC01, 0}, {0xFFFF, 1022}};
    for (int[] row : rows) {
      String name = "PC becomes " + row[0];
      bench(name + " by a branch").program(Code.one(1, indexed(0)), row[0]).run(0).hasCounter(row[1]);
      bench(name + " by a link").program(Code.one(10, indexed(0)), row[0]).run(0).hasCounter(row[1])
          .hasRegister(11, 260);
      bench(name + " by 0380h").register(13, 512).register(14, row[0]).program(RETURN).run(0).hasCounter(row[1]);
      bench(name + " by a switch").word(300, 800).word(302, row[0]).program(Code.one(0, indexed(0)), 300)
          .run(0).hasCounter(row[1]);
      bench(name + " by an extended call").word(64, 800).word(66, row[0]).program(Code.register(11, 0, 1))
          .run(0).hasCounter(row[1]);
      Bench reset = bench(name + " by reset").word(0, 800).word(2, row[0]);
      reset.machine.reset();
      reset.hasCounter(row[1]);
      Bench level = bench(name + " by a level").word(0, 800).word(2, row[0]);
      level.machine.level(0);
      level.run(0).hasCounter(row[1]);
    }
  }

  private static void registersLieInMemory() {
    checks.sentence("REGISTER Rn is the word at WP + 2 * n (R16, too).");
    for (int workspace : new int[] {0, 512, 992, 994, 1020, 1022}) {
      for (int n : new int[] {0, 1, 2, 15}) {
        bench("R" + n + " with WP " + workspace).program(SET_WORKSPACE, workspace, Code.immediate(0, n), 0x1234)
            .run(0, 0).hasWord((workspace + 2 * n) & 1023, 0x1234);
      }
    }
  }

  private static void register16() {
    checks.sentence("REGISTER Rn is the word at WP + 2 * n (R16, too).");
    bench("a product's lower half").register(15, 0x1234).register(16, 0x7777).register(0, 0x1000).register(17, 0x5555)
        .program(Code.register(14, 15, 0)).run(0).hasRegister(15, 0x0123).hasRegister(16, 0x4000)
        .hasRegister(0, 0x1000).hasRegister(17, 0x5555);
    bench("a quotient's rest").register(15, 1).register(16, 7).register(1, 16).register(0, 0x5555)
        .program(Code.register(15, 15, 1)).run(0).hasRegister(15, 0x1000).hasRegister(16, 7).hasRegister(0, 0x5555);
    bench("no quotient").register(15, 16).register(16, 7).register(1, 16).program(Code.register(15, 15, 1))
        .run(0).hasRegister(15, 16).hasRegister(16, 7).hasStatus(Due.O);
    bench("a switch through R15").register(15, 800).register(16, 90).program(Code.one(0, 15))
        .run(0).hasWorkspace(800).hasCounter(90);
    // With WP 992, R15 is the last word and R16 the first.
    bench("R16 goes on at 0").word(1022, 0xFFFF).word(994, 0xFFFF)
        .program(SET_WORKSPACE, 992, Code.register(14, 15, 1)).run(0, 0).hasWord(1022, 0xFFFE).hasWord(0, 1);
  }
}
