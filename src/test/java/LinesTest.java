/** Promise 7: wire; promise 8: line; and the instructions of a step (promise 5) on lines. */
public final class LinesTest {
  private static final Checks checks = new Checks("LinesTest");

  public static void main(String[] args) {
    everyLineIsItsOwn();
    wrongLinesAreRefused();
    oneLineIsSet();
    oneLineIsAsked();
    linesFromAByte();
    linesFromAWord();
    linesToAByte();
    linesToAWord();
    operandsOfLines();
    checks.end();
  }

  private static void everyLineIsItsOwn() {
    for (int line = 0; line < 64; line++) {
      WorkspaceMachine x = new WorkspaceMachine();
      x.wire(line, true);
      for (int other = 0; other < 64; other++) {
        checks.holds("line(" + other + ") after wire(" + line + ")", x.line(other) == (other == line));
      }
      x.wire(line, true);
      checks.holds("line(" + line + ") after two", x.line(line));
      x.wire((line + 1) & 63, true);
      x.wire(line, false);
      checks.holds("line(" + line + ") after false", !x.line(line));
      checks.holds("the line beside stays", x.line((line + 1) & 63));
    }
  }

  private static void wrongLinesAreRefused() {
    WorkspaceMachine x = new WorkspaceMachine();
    for (int line : new int[] {-1, -64, 64, 65, 128, Integer.MIN_VALUE, Integer.MAX_VALUE}) {
      checks.refuses("wire(" + line + ", true)", () -> x.wire(line, true));
      checks.refuses("line(" + line + ")", () -> x.line(line));
    }
    checks.holds("line(0) after what was refused", !x.line(0));
    checks.holds("line(63) after what was refused", !x.line(63));
  }

  private static void oneLineIsSet() {
    new Bench(checks, "line set and cleared").status(0xFFF0).register(12, 0x0021)
        .program(Code.near(0x1D, 3), Code.near(0x1D, -1), Code.near(0x1E, 3))
        .run(0).hasLines(18, "010").run(0).hasLines(14, "010").run(0).hasLines(18, "000").hasLines(15, "1")
        .hasStatus(0xFFF0).hasCounter(262);
    new Bench(checks, "1D00h").register(12, 20).program(0x1D00).run(0).hasLines(9, "010").hasCounter(258);
    new Bench(checks, "lines count modulo 64").register(12, 0xFFFF)
        .program(Code.near(0x1D, 1), Code.near(0x1D, 127), Code.near(0x1D, -128))
        .run(0).hasLines(0, "1").run(0).hasLines(62, "1").run(0).hasLines(63, "1");
    new Bench(checks, "lines below 0").register(12, 2).program(Code.near(0x1D, -3)).run(0).hasLines(61, "010");
  }

  private static void oneLineIsAsked() {
    new Bench(checks, "line asked").status(0xDFF0).register(12, 20).wires(9, "101")
        .program(Code.near(0x1F, -1), Code.near(0x1F, 0), Code.near(0x1F, 1))
        .run(0).hasStatus(0xFFF0).run(0).hasStatus(0xDFF0).run(0).hasStatus(0xFFF0).hasLines(9, "101");
    new Bench(checks, "line asked modulo 64").register(12, 0).wires(62, "1")
        .program(Code.near(0x1F, -2), Code.near(0x1F, 63)).run(0).hasStatus(0x2000).run(0).hasStatus(0);
  }

  private static void linesFromAByte() {
    new Bench(checks, "5 lines from").register(12, 8).register(0, 0xAAFF).wires(3, "1111111")
        .program(Code.register(12, 5, 0)).run(0).hasLines(3, "1010101").hasLines(9, "1").hasStatus(0x8000)
        .hasRegister(0, 0xAAFF);
    new Bench(checks, "8 lines from, past the last").register(12, 120).register(1, 0x13FF).wires(60, "00000000")
        .program(Code.register(12, 8, 1)).run(0).hasLines(60, "11001000").hasLines(4, "0").hasStatus(0xC400);
    // The whole byte is tested, not only what goes to the lines.
    new Bench(checks, "1 line from").status(0x0400).register(2, 0x8000).wires(0, "1")
        .program(Code.register(12, 1, 2)).run(0).hasLines(0, "0").hasStatus(0x8400);
    new Bench(checks, "8 lines from 0").status(0xCC00).register(2, 0x00FF).wires(0, "11111111")
        .program(Code.register(12, 8, 2)).run(0).hasLines(0, "00000000").hasStatus(0x2800);
  }

  private static void linesFromAWord() {
    new Bench(checks, "9 lines from").status(0x0400).register(12, 4).register(1, 0x0301).wires(0, "000000000001")
        .program(Code.register(12, 9, 1)).run(0).hasLines(0, "001000000011").hasStatus(0xC400);
    new Bench(checks, "16 lines from").register(12, 0).register(1, 0x8001).wires(0, "00000000000000001")
        .program(Code.register(12, 0, 1)).run(0).hasLines(0, "10000000000000011").hasStatus(0x8000);
  }

  private static void linesToAByte() {
    new Bench(checks, "8 lines to").register(12, 8).register(1, 0x1234).wires(4, "0101000011")
        .program(Code.register(13, 8, 1)).run(0).hasRegister(1, 0x0A34).hasStatus(0xC000);
    new Bench(checks, "3 lines to").status(0xD000).register(12, 0).register(1, 0xFFFF).wires(0, "0011")
        .program(Code.register(13, 3, 1)).run(0).hasRegister(1, 0x04FF).hasStatus(0xD400);
    new Bench(checks, "8 lines to, the highest 1").register(12, 126).wires(63, "10000001")
        .program(Code.register(13, 8, 1)).run(0).hasRegister(1, 0x8100).hasStatus(0x8000);
    new Bench(checks, "1 line to 0").status(0x0400).register(1, 0xFFFF).program(Code.register(13, 1, 1))
        .run(0).hasRegister(1, 0x00FF).hasStatus(0x2000);
  }

  private static void linesToAWord() {
    new Bench(checks, "9 lines to").status(0x0400).register(12, 2).register(1, 0xFFFF).wires(1, "1000000011")
        .program(Code.register(13, 9, 1)).run(0).hasRegister(1, 0x0101).hasStatus(0xC400);
    new Bench(checks, "16 lines to").register(12, 0).register(1, 0).wires(0, "10000000000000011")
        .program(Code.register(13, 0, 1)).run(0).hasRegister(1, 0x8001).hasStatus(0x8000);
    new Bench(checks, "16 lines to 0").register(12, 0).register(1, 5).wires(15, "01").wires(63, "1")
        .program(Code.register(13, 0, 1)).run(0).hasRegister(1, 0).hasStatus(0x2000);
  }

  private static void operandsOfLines() {
    int growing = Code.operand(Code.GROWING, 3);
    new Bench(checks, "lines from a growing byte").register(3, 301).word(300, 0xFF05)
        .program(Code.register(12, 8, growing)).run(0).hasRegister(3, 302).hasLines(0, "10100000");
    new Bench(checks, "lines from a growing word").register(3, 300).word(300, 0x0105)
        .program(Code.register(12, 9, growing)).run(0).hasRegister(3, 302).hasLines(0, "101000001");
    new Bench(checks, "lines to a growing byte").register(3, 301).word(300, 0xFFFF).wires(0, "101")
        .program(Code.register(13, 8, growing)).run(0).hasRegister(3, 302).hasWord(300, 0xFF05);
    new Bench(checks, "lines to a growing word").register(3, 300).word(300, 0xFFFF).wires(0, "101")
        .program(Code.register(13, 0, growing)).run(0).hasRegister(3, 302).hasWord(300, 5);
    // The operand's address is found before R12 is asked for.
    new Bench(checks, "lines from where R12 grows").register(12, 300).word(300, 0xFFFF)
        .program(Code.register(12, 9, Code.operand(Code.GROWING, 12)))
        .run(0).hasRegister(12, 302).hasLines(22, "01111111110");
  }
}
