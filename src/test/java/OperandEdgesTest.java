/** The edges of "Terms", third paragraph: the ways to an operand, and their order. */
public final class OperandEdgesTest {
  private static final Checks checks = new Checks("OperandEdgesTest");
  private static final int ADD = 10;
  private static final int ADD_BYTE = 11;
  private static final int MOVE = 12;
  private static final int MOVE_BYTE = 13;
  private static final int COMPARE = 8;

  public static void main(String[] args) {
    everyRegisterIsAnOperand();
    theNextWordAndRn();
    theNextWordAlone();
    growingByTwo();
    growingByOne();
    bytesOfRegisters();
    sourcesAddressBeforeItsValue();
    sourceBeforeDestinationsAddress();
    destinationsAddressBeforeItsValue();
    wordsOfTheProgramInOrder();
    checks.end();
  }

  private static Bench bench(String name) {
    return new Bench(checks, name);
  }

  private static int indirect(int n) {
    return Code.operand(Code.INDIRECT, n);
  }

  private static int indexed(int n) {
    return Code.operand(Code.INDEXED, n);
  }

  private static int growing(int n) {
    return Code.operand(Code.GROWING, n);
  }

  private static void everyRegisterIsAnOperand() {
    checks.sentence("OPERANDS by two bits T and four bits n: 0: Rn. 1: the word at Rn's value.");
    for (int n = 0; n < 16; n++) {
      int other = n == 7 ? 8 : 7;
      bench("R" + n + " as source").register(n, 0x1234).program(Code.two(MOVE, n, other))
          .run(0).hasRegister(other, 0x1234).hasRegister(n, 0x1234);
      bench("R" + n + " as destination").register(other, 0x1234).program(Code.two(MOVE, other, n))
          .run(0).hasRegister(n, 0x1234);
      bench("the word at R" + n + " as source").register(n, 300).word(300, 0x1234)
          .program(Code.two(MOVE, indirect(n), other)).run(0).hasRegister(other, 0x1234).hasRegister(n, 300);
      bench("the word at R" + n + " as destination").register(n, 300).register(other, 0x1234)
          .program(Code.two(MOVE, other, indirect(n))).run(0).hasWord(300, 0x1234).hasRegister(n, 300);
      bench("R" + n + " grows").register(n, 300).word(300, 0x1234).program(Code.two(MOVE, growing(n), other))
          .run(0).hasRegister(other, 0x1234).hasRegister(n, 302);
    }
  }

  private static void theNextWordAndRn() {
    checks.sentence("2: at the next word of the program (PC grows by 2), plus Rn's value if n is not 0.");
    for (int n = 1; n < 16; n++) {
      int other = n == 7 ? 8 : 7;
      bench("the next word plus R" + n).register(n, 6).word(306, 0x1234).word(300, 0x4321)
          .program(Code.two(MOVE, indexed(n), other), 300).run(0).hasRegister(other, 0x1234).hasCounter(260)
          .hasRegister(n, 6);
      bench("to the next word plus R" + n).register(n, 6).register(other, 0x1234)
          .program(Code.two(MOVE, other, indexed(n)), 300).run(0).hasWord(306, 0x1234).hasWord(300, 0)
          .hasCounter(260);
    }
    bench("the next word plus 0").register(3, 0).word(300, 0x1234).program(Code.two(MOVE, indexed(3), 1), 300)
        .run(0).hasRegister(1, 0x1234);
    bench("0 plus Rn").register(3, 300).word(300, 0x1234).program(Code.two(MOVE, indexed(3), 1), 0)
        .run(0).hasRegister(1, 0x1234);
    bench("the next word less 2").register(3, 0xFFFE).word(298, 0x1234).program(Code.two(MOVE, indexed(3), 1), 300)
        .run(0).hasRegister(1, 0x1234);
  }

  private static void theNextWordAlone() {
    checks.sentence("2: at the next word of the program (PC grows by 2), plus Rn's value if n is not 0.");
    for (int r0 : new int[] {0, 2, 0xFFFE}) {
      bench("R0 " + r0 + " does not count").register(0, r0).word(300, 0x1234)
          .program(Code.two(MOVE, indexed(0), 1), 300).run(0).hasRegister(1, 0x1234).hasCounter(260)
          .hasRegister(0, r0);
      bench("R0 " + r0 + " does not count for the destination").register(0, r0).register(1, 0x1234)
          .program(Code.two(MOVE, 1, indexed(0)), 300).run(0).hasWord(300, 0x1234).hasCounter(260);
      bench("R0 " + r0 + " does not count for one operand").register(0, r0).word(300, 4)
          .program(Code.one(6, indexed(0)), 300).run(0).hasWord(300, 5).hasCounter(260);
    }
  }

  private static void growingByTwo() {
    checks.sentence("3: as 1, and Rn grows by 2 (by 1 for bytes) then.");
    int[][] rows = {{300, 302}, {301, 303}, {1022, 1024}, {1023, 1025}, {0x7FFE, 0x8000}, {0xFFFE, 0}, {0xFFFF, 1}};
    for (int[] row : rows) {
      int address = row[0] & 1022;
      String name = "from " + row[0];
      bench(name).register(3, row[0]).word(address, 0x1234).program(Code.two(MOVE, growing(3), 1))
          .run(0).hasRegister(1, 0x1234).hasRegister(3, row[1]);
      bench(name + ", destination").register(3, row[0]).register(1, 0x1234).program(Code.two(MOVE, 1, growing(3)))
          .run(0).hasWord(address, 0x1234).hasRegister(3, row[1]);
      bench(name + ", compared").register(3, row[0]).program(Code.two(COMPARE, 1, growing(3)))
          .run(0).hasRegister(3, row[1]);
      bench(name + ", one operand").register(3, row[0]).word(address, 4).program(Code.one(6, growing(3)))
          .run(0).hasWord(address, 5).hasRegister(3, row[1]);
      bench(name + ", register and operand").register(3, row[0]).word(address, 4)
          .program(Code.register(10, 1, growing(3))).run(0).hasRegister(1, 4).hasRegister(3, row[1]);
      bench(name + ", 9 lines").register(3, row[0]).word(address, 0x0100).program(Code.register(12, 9, growing(3)))
          .run(0).hasLines(8, "1").hasRegister(3, row[1]);
    }
    // They ask for the address alone; Rn grows all the same.
    bench("a branch").register(3, 300).program(Code.one(1, growing(3))).run(0).hasCounter(300).hasRegister(3, 302);
    bench("a link").register(3, 300).program(Code.one(10, growing(3))).run(0).hasCounter(300).hasRegister(3, 302);
    bench("a switch").register(3, 300).word(300, 800).word(302, 90).program(Code.one(0, growing(3)))
        .run(0).hasWorkspace(800).hasRegister(3, 302);
    bench("an extended call").register(3, 300).word(64, 800).word(66, 90).program(Code.register(11, 0, growing(3)))
        .run(0).hasWord(822, 300).hasRegister(3, 302);
    bench("without a result").register(3, 300).word(300, 0).program(Code.register(15, 1, growing(3)))
        .run(0).hasStatus(Due.O).hasRegister(3, 302);
  }

  private static void growingByOne() {
    checks.sentence("3: as 1, and Rn grows by 2 (by 1 for bytes) then.");
    int[][] rows = {{300, 301}, {301, 302}, {1023, 1024}, {0x7FFF, 0x8000}, {0xFFFE, 0xFFFF}, {0xFFFF, 0}};
    for (int[] row : rows) {
      int address = row[0] & 1022;
      int upper = row[0] % 2 == 0 ? 0x5600 : 0x7800;
      String name = "a byte from " + row[0];
      bench(name).register(3, row[0]).word(address, 0x5678).program(Code.two(MOVE_BYTE, growing(3), 1))
          .run(0).hasRegister(1, upper).hasRegister(3, row[1]);
      bench(name + ", destination").register(3, row[0]).register(1, 0x1234).word(address, 0x5678)
          .program(Code.two(MOVE_BYTE, 1, growing(3))).run(0)
          .hasWord(address, row[0] % 2 == 0 ? 0x1278 : 0x5612).hasRegister(3, row[1]);
      bench(name + ", 8 lines").register(3, row[0]).word(address, 0x5678).program(Code.register(12, 8, growing(3)))
          .run(0).hasLines(0, row[0] % 2 == 0 ? "011010100" : "000111100").hasRegister(3, row[1]);
      bench(name + ", 8 lines to it").register(3, row[0]).word(address, 0x5678).wires(0, "1")
          .program(Code.register(13, 8, growing(3))).run(0)
          .hasWord(address, row[0] % 2 == 0 ? 0x0178 : 0x5601).hasRegister(3, row[1]);
    }
  }

  private static void bytesOfRegisters() {
    checks.sentence("A byte operand of kind 0 is the upper half of Rn.");
    for (int n : new int[] {0, 1, 14, 15}) {
      bench("the byte of R" + n).register(n, 0x5678).register(7, 0xABCD).program(Code.two(MOVE_BYTE, n, 7))
          .run(0).hasRegister(7, 0x56CD).hasRegister(n, 0x5678);
      bench("to the byte of R" + n).register(n, 0x5678).register(7, 0xABCD).program(Code.two(MOVE_BYTE, 7, n))
          .run(0).hasRegister(n, 0xAB78).hasRegister(7, 0xABCD);
    }
    bench("to itself").register(7, 0x80FF).program(Code.two(ADD_BYTE, 7, 7)).run(0).hasRegister(7, 0x00FF)
        .hasStatus(Due.E | Due.C | Due.O);
  }

  private static void sourcesAddressBeforeItsValue() {
    checks.sentence("First the source's address is found, then its value");
    int r3 = Bench.registerAddress(3);
    bench("a register that points to itself has grown").register(3, r3).program(Code.two(MOVE, growing(3), 4))
        .run(0).hasRegister(4, r3 + 2).hasRegister(3, r3 + 2);
    bench("its upper byte has not grown").register(3, r3).program(Code.two(MOVE_BYTE, growing(3), 4))
        .run(0).hasRegister(4, r3 & 0xFF00).hasRegister(3, r3 + 1);
    bench("its lower byte has grown").register(3, r3 + 1).program(Code.two(MOVE_BYTE, growing(3), 4))
        .run(0).hasRegister(4, (r3 + 2) * 256 & 0xFF00).hasRegister(3, r3 + 2);
    bench("one operand").register(3, r3).program(Code.one(5, growing(3))).run(0).hasRegister(3, ~(r3 + 2) & 0xFFFF);
    bench("a register's own product").register(3, r3).program(Code.register(14, 3, growing(3)))
        .run(0).hasRegister(3, (r3 + 2) * (r3 + 2) >> 16).hasRegister(4, (r3 + 2) * (r3 + 2) & 0xFFFF);
    // The next word of the program is read where it stands, even if it is the operand itself.
    bench("the next word is the operand").program(Code.two(MOVE, indexed(0), 1), 258)
        .run(0).hasRegister(1, 258).hasCounter(260);
  }

  private static void sourceBeforeDestinationsAddress() {
    checks.sentence("then the destination's address");
    bench("a register grows twice").register(3, 300).word(300, 7).word(302, 5)
        .program(Code.two(ADD, growing(3), growing(3))).run(0).hasWord(302, 12).hasWord(300, 7).hasRegister(3, 304);
    bench("a register grows twice for bytes").register(3, 300).word(300, 0x0705)
        .program(Code.two(ADD_BYTE, growing(3), growing(3))).run(0).hasWord(300, 0x070C).hasRegister(3, 302);
    bench("the source's value is that before the destination grows").register(3, 300)
        .program(Code.two(MOVE, 3, growing(3))).run(0).hasWord(300, 300).hasRegister(3, 302);
    bench("the destination's address is that after the source has grown").register(3, 300).word(300, 7).word(302, 5)
        .program(Code.two(ADD, growing(3), indirect(3))).run(0).hasWord(302, 12).hasWord(300, 7);
    bench("so is the sum").register(3, 300).word(300, 7).word(312, 5)
        .program(Code.two(ADD, growing(3), indexed(3)), 10).run(0).hasWord(312, 12).hasRegister(3, 302);
    bench("the source's value is read through the former address").register(3, 300).word(300, 7).word(302, 5)
        .program(Code.two(MOVE, indirect(3), growing(3))).run(0).hasWord(300, 7).hasRegister(3, 302);
  }

  private static void destinationsAddressBeforeItsValue() {
    checks.sentence("then the destination's address, then its value");
    int r3 = Bench.registerAddress(3);
    bench("a register that points to itself has grown").register(3, r3).register(1, 5)
        .program(Code.two(ADD, 1, growing(3))).run(0).hasRegister(3, r3 + 7);
    bench("the source has grown as destination").register(3, 300).word(300, 10)
        .program(Code.two(ADD, growing(3), 3)).run(0).hasRegister(3, 312);
    // Compared with its own address, the register has grown as destination, not as source.
    bench("compared with itself").register(3, r3).program(Code.two(COMPARE, 3, growing(3)))
        .run(0).hasStatus(0).hasRegister(3, r3 + 2);
    bench("compared with itself the other way").register(3, r3).program(Code.two(COMPARE, growing(3), 3))
        .run(0).hasStatus(Due.E).hasRegister(3, r3 + 2);
    bench("a byte is kept in a word that has grown").register(3, r3).register(1, 0x5600)
        .program(Code.two(MOVE_BYTE, 1, growing(3))).run(0).hasRegister(3, 0x5600 + ((r3 + 1) & 0xFF));
  }

  private static void wordsOfTheProgramInOrder() {
    checks.sentence("First the source's address is found, then its value; then the destination's address, "
        + "then its value.");
    bench("the source's word stands first").word(300, 7).word(400, 5)
        .program(Code.two(ADD, indexed(0), indexed(0)), 300, 400).run(0).hasWord(300, 7).hasWord(400, 12)
        .hasCounter(262);
    bench("only the destination's word").word(400, 5).register(1, 7).program(Code.two(ADD, 1, indexed(0)), 400)
        .run(0).hasWord(400, 12).hasCounter(260);
    bench("the destination is the word that says so").register(1, 0x03A0)
        .program(Code.two(MOVE, 1, indexed(0)), 258, 0x03A0).run(0).hasWord(258, 0x03A0).hasCounter(260);
    bench("the source's address is the source's register's, grown").register(3, 300).register(4, 300).word(300, 302)
        .word(302, 9).program(Code.two(MOVE, growing(3), 4), Code.two(MOVE, indirect(4), 5))
        .run(0, 0).hasRegister(5, 9);
  }
}
