/** Promise 5: the five ways to an operand, on words and bytes, and how addresses count. */
public final class OperandTest {
  private static final Checks checks = new Checks("OperandTest");
  private static final int MOVE = 12;
  private static final int MOVE_BYTE = 13;
  private static final int ADD = 10;
  private static final int ADD_BYTE = 11;

  public static void main(String[] args) {
    sourcesOfWords();
    destinationsOfWords();
    sourcesOfBytes();
    destinationsOfBytes();
    addressesCountModulo1024();
    registersPastTheEnd();
    sourceBeforeDestination();
    registersThatPointToThemselves();
    checks.end();
  }

  private static int direct(int n) {
    return Code.operand(Code.DIRECT, n);
  }

  private static int indirect(int n) {
    return Code.operand(Code.INDIRECT, n);
  }

  private static int indexed(int n) {
    return Code.operand(Code.INDEXED, n);
  }

  private static int growing(int n) {
    return Code.operand(Code.GROWING, n);
  }

  private static void sourcesOfWords() {
    new Bench(checks, "Rn to Rn").register(3, 0x1234).program(Code.two(MOVE, direct(3), direct(4)))
        .run(0).hasRegister(4, 0x1234).hasRegister(3, 0x1234).hasCounter(258);
    new Bench(checks, "word at Rn").register(3, 300).word(300, 0x1234).program(Code.two(MOVE, indirect(3), direct(4)))
        .run(0).hasRegister(4, 0x1234).hasRegister(3, 300).hasCounter(258);
    new Bench(checks, "word at an odd Rn").register(3, 301).word(300, 0x1234)
        .program(Code.two(MOVE, indirect(3), direct(4))).run(0).hasRegister(4, 0x1234).hasRegister(3, 301);
    new Bench(checks, "word at the next word").register(0, 50).word(300, 0x1234)
        .program(Code.two(MOVE, indexed(0), direct(4)), 300).run(0).hasRegister(4, 0x1234).hasCounter(260);
    new Bench(checks, "word at the next word and Rn").register(3, 50).word(350, 0x1234)
        .program(Code.two(MOVE, indexed(3), direct(4)), 300).run(0).hasRegister(4, 0x1234).hasCounter(260);
    new Bench(checks, "word at the next word less").register(3, 0xFFFE).word(298, 0x1234)
        .program(Code.two(MOVE, indexed(3), direct(4)), 300).run(0).hasRegister(4, 0x1234);
    new Bench(checks, "word at a growing Rn").register(3, 300).word(300, 0x1234)
        .program(Code.two(MOVE, growing(3), direct(4))).run(0).hasRegister(4, 0x1234).hasRegister(3, 302)
        .hasCounter(258);
    new Bench(checks, "R0 grows, too").register(0, 0xFFFF).word(1022, 0x1234)
        .program(Code.two(MOVE, growing(0), direct(4))).run(0).hasRegister(4, 0x1234).hasRegister(0, 1);
  }

  private static void destinationsOfWords() {
    new Bench(checks, "to the word at Rn").register(1, 7).register(3, 300).word(300, 5)
        .program(Code.two(ADD, direct(1), indirect(3))).run(0).hasWord(300, 12).hasRegister(3, 300);
    new Bench(checks, "to the word at a growing Rn").register(1, 7).register(3, 300).word(300, 5)
        .program(Code.two(ADD, direct(1), growing(3))).run(0).hasWord(300, 12).hasRegister(3, 302).hasWord(302, 0);
    new Bench(checks, "from and to next words").register(3, 10).word(300, 7).word(410, 5)
        .program(Code.two(ADD, indexed(0), indexed(3)), 300, 400).run(0).hasWord(410, 12).hasCounter(262);
    new Bench(checks, "a compared destination grows").register(1, 7).register(3, 300)
        .program(Code.two(8, direct(1), growing(3))).run(0).hasRegister(3, 302).hasWord(300, 0);
  }

  private static void sourcesOfBytes() {
    new Bench(checks, "upper half of Rn").register(3, 0x1234).register(4, 0xABCD)
        .program(Code.two(MOVE_BYTE, direct(3), direct(4))).run(0).hasRegister(4, 0x12CD).hasRegister(3, 0x1234);
    new Bench(checks, "even byte").register(3, 300).word(300, 0x1234).register(4, 0xABCD)
        .program(Code.two(MOVE_BYTE, indirect(3), direct(4))).run(0).hasRegister(4, 0x12CD);
    new Bench(checks, "odd byte").register(3, 301).word(300, 0x1234).register(4, 0xABCD)
        .program(Code.two(MOVE_BYTE, indirect(3), direct(4))).run(0).hasRegister(4, 0x34CD);
    new Bench(checks, "odd byte at the next word and Rn").register(3, 1).word(300, 0x1234)
        .program(Code.two(MOVE_BYTE, indexed(3), direct(4)), 300).run(0).hasRegister(4, 0x3400).hasCounter(260);
    new Bench(checks, "growing by 1").register(3, 300).word(300, 0x1234)
        .program(Code.two(MOVE_BYTE, growing(3), direct(4)), Code.two(MOVE_BYTE, growing(3), direct(5)))
        .run(0, 0).hasRegister(4, 0x1200).hasRegister(5, 0x3400).hasRegister(3, 302);
  }

  private static void destinationsOfBytes() {
    new Bench(checks, "to the even byte").register(1, 0x05FF).register(3, 300).word(300, 0x1234)
        .program(Code.two(ADD_BYTE, direct(1), indirect(3))).run(0).hasWord(300, 0x1734);
    new Bench(checks, "to the odd byte").register(1, 0x05FF).register(3, 301).word(300, 0x12FE)
        .program(Code.two(ADD_BYTE, direct(1), indirect(3))).run(0).hasWord(300, 0x1203);
    new Bench(checks, "to a growing byte").register(1, 0x05FF).register(3, 301).word(300, 0x1234)
        .program(Code.two(ADD_BYTE, direct(1), growing(3))).run(0).hasWord(300, 0x1239).hasRegister(3, 302);
    new Bench(checks, "byte to its neighbour").register(3, 300).word(300, 0x1234)
        .program(Code.two(MOVE_BYTE, growing(3), indirect(3))).run(0).hasWord(300, 0x1212).hasRegister(3, 301);
  }

  private static void addressesCountModulo1024() {
    new Bench(checks, "Rn beyond 1023").register(3, 0xFC00 + 300).word(300, 0x1234)
        .program(Code.two(MOVE, growing(3), direct(4))).run(0).hasRegister(4, 0x1234).hasRegister(3, 0xFC00 + 302);
    new Bench(checks, "sum beyond 1023").register(3, 1000).word(76, 0x1234)
        .program(Code.two(MOVE, indexed(3), direct(4)), 100).run(0).hasRegister(4, 0x1234);
    new Bench(checks, "sum beyond 65535").register(3, 0xFFFF).word(300, 0x1234)
        .program(Code.two(MOVE_BYTE, indexed(3), direct(4)), 302).run(0).hasRegister(4, 0x3400);
    Bench end = new Bench(checks, "PC beyond 1022").word(1022, Code.two(MOVE, indexed(0), direct(4))).word(0, 300)
        .word(300, 0x1234).program(Code.near(0x10, 127), 0).word(512, Code.near(0x10, 127))
        .word(768, Code.near(0x10, 126));
    end.run(0).hasCounter(512).run(0).hasCounter(768).run(0).hasCounter(1022).run(0).hasRegister(4, 0x1234)
        .hasCounter(2);
  }

  private static void registersPastTheEnd() {
    Bench b = new Bench(checks, "workspace past the end").program(0x02E0, 1021, Code.immediate(0, 1), 0x1234)
        .run(0).hasWorkspace(1020);
    b.run(0).hasWord(1022, 0x1234).program(0, 0, 0, 0, Code.immediate(0, 2), 0x5678).run(0).hasWord(0, 0x5678)
        .hasWorkspace(1020);
  }

  private static void sourceBeforeDestination() {
    new Bench(checks, "both grow").register(3, 300).word(300, 7).word(302, 5)
        .program(Code.two(ADD, growing(3), growing(3))).run(0).hasWord(302, 12).hasWord(300, 7).hasRegister(3, 304);
    new Bench(checks, "Rn is read before it grows as destination").register(3, 300)
        .program(Code.two(MOVE, direct(3), growing(3))).run(0).hasWord(300, 300).hasRegister(3, 302);
    new Bench(checks, "Rn has grown as source").register(3, 300).word(300, 10)
        .program(Code.two(ADD, growing(3), direct(3))).run(0).hasRegister(3, 312);
    new Bench(checks, "RD has grown as source").register(3, 300).word(300, 0x00FF)
        .program(Code.register(10, 3, growing(3))).run(0).hasRegister(3, 302 ^ 0xFF);
  }

  private static void registersThatPointToThemselves() {
    int r3 = Bench.registerAddress(3);
    new Bench(checks, "the source has grown").register(3, r3).program(Code.two(MOVE, growing(3), direct(4)))
        .run(0).hasRegister(4, r3 + 2).hasRegister(3, r3 + 2);
    new Bench(checks, "the destination has grown").register(3, r3).register(1, 5)
        .program(Code.two(ADD, direct(1), growing(3))).run(0).hasRegister(3, r3 + 7);
  }
}
