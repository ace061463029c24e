/** The edges of the promises' own words, and of "What it is". */
public final class PromiseEdgesTest {
  private static final Checks checks = new Checks("PromiseEdgesTest");
  private static final int[] FAR = {
    Integer.MIN_VALUE, Integer.MIN_VALUE + 1, Integer.MIN_VALUE + 2, -65536, -1024, 65536, 0x40000000,
    Integer.MAX_VALUE - 1, Integer.MAX_VALUE,
  };

  public static void main(String[] args) {
    theLastCall();
    newObjects();
    newObjectsStep();
    resetsOfNewObjects();
    resetsKeep();
    resetsEndIdle();
    pokesAtTheEnds();
    pokesBeyond();
    peeksAtTheEnds();
    peeksBeyond();
    levelsAtTheEnds();
    levelsBeyond();
    wiresAtTheEnds();
    wiresBeyond();
    linesAtTheEnds();
    linesBeyond();
    statesAtTheEnds();
    statesBeyond();
    refusedCallsChangeNothing();
    checks.end();
  }

  private static void theLastCall() {
    checks.sentence("An object is used for at most 512 calls after it has been made");
    WorkspaceMachine x = new WorkspaceMachine();
    x.poke(0, (char) 0x02E0);
    x.poke(2, (char) 512);
    x.poke(4, (char) Code.one(6, 0));
    x.poke(6, (char) Code.near(0x10, -2));
    boolean done = true;
    for (int call = 5; call < 512; call++) {
      done = x.step() == 0 && done;
    }
    // Calls 5 to 511: one that sets WP, then 253 sums with a jump behind each.
    checks.same("the 512th call", x.peek(512), 253);
    checks.holds("each call before", done);
  }

  private static void newObjects() {
    checks.sentence("All words, lines, WP, PC and ST are 0; no level is requested (16); not IDLE.");
    WorkspaceMachine x = new WorkspaceMachine();
    for (int address : new int[] {0, 2, 510, 512, 1020, 1022}) {
      checks.same("peek(" + address + ")", x.peek(address), 0);
    }
    for (int line : new int[] {0, 1, 31, 32, 62, 63}) {
      checks.holds("line(" + line + ") is 0", !x.line(line));
    }
    int[] due = {0, 0, 0, 16, 0};
    for (int what = 0; what < 5; what++) {
      checks.same("state(" + what + ")", x.state(what), due[what]);
    }
  }

  private static void newObjectsStep() {
    checks.sentence("All words, lines, WP, PC and ST are 0; no level is requested (16); not IDLE.");
    WorkspaceMachine x = new WorkspaceMachine();
    checks.same("the first step of a new object, at a word of 0", x.step(), 2);
    checks.same("PC", x.state(1), 0);
    WorkspaceMachine y = new WorkspaceMachine();
    y.poke(0, (char) Code.immediate(6, 0));
    checks.same("a step of a new object", y.step(), 0);
    checks.same("R0 is the word at 0 and became ST", y.peek(0), 0);
    checks.same("PC", y.state(1), 2);
    WorkspaceMachine z = new WorkspaceMachine();
    z.level(0);
    checks.same("level 0 of a new object", z.step(), 0);
    checks.same("PC", z.state(1), 0);
  }

  private static void resetsOfNewObjects() {
    checks.sentence("A SWITCH through 0; the mask is 0, it is not IDLE.");
    WorkspaceMachine x = new WorkspaceMachine();
    x.poke(26, (char) 1);
    x.poke(28, (char) 2);
    x.poke(30, (char) 3);
    x.reset();
    for (int address = 26; address < 32; address += 2) {
      checks.same("peek(" + address + ")", x.peek(address), 0);
    }
    checks.same("WP", x.state(0), 0);
    checks.same("PC", x.state(1), 0);
    checks.same("ST", x.state(2), 0);
  }

  private static void resetsKeep() {
    checks.sentence("A SWITCH through 0; the mask is 0, it is not IDLE.");
    for (int st : new int[] {0x0000, 0x0001, 0x000F, 0x8000, 0xFFF0, 0xFFFF}) {
      Bench b = new Bench(checks, "reset with ST " + Integer.toHexString(st) + "h").status(st).word(0, 800).word(2, 90)
          .wires(62, "1011");
      b.machine.level(16);
      b.machine.reset();
      b.hasWorkspace(800).hasCounter(90).hasStatus(st - st % 16).hasWord(826, 512).hasWord(828, 256).hasWord(830, st)
          .hasLines(62, "1011").hasState(3, 16).hasWord(0, 800).hasWord(2, 90);
    }
    Bench level = new Bench(checks, "reset with a level").status(15).word(0, 800).word(2, 90).word(90, 0x03A0);
    level.machine.level(1);
    level.machine.reset();
    // The level stays requested; it is above the mask now.
    level.hasState(3, 1).run(0).hasWorkspace(800).hasCounter(92);
    Bench again = new Bench(checks, "reset twice").word(0, 800).word(2, 90);
    again.machine.reset();
    again.machine.reset();
    again.hasWorkspace(800).hasCounter(90).hasWord(826, 800).hasWord(828, 90).hasWord(830, 0);
    Bench odd = new Bench(checks, "reset to odd words").word(0, 0xFFFF).word(2, 0xFFFF);
    odd.machine.reset();
    odd.hasWorkspace(1022).hasCounter(1022).hasWord(24, 512).hasWord(26, 256).hasWord(28, 0);
  }

  private static void resetsEndIdle() {
    checks.sentence("it is not IDLE");
    Bench b = new Bench(checks, "reset of an IDLE").status(15).program(0x0340).word(0, 800).word(2, 90)
        .word(90, 0x03A0).run(1, 1);
    b.machine.reset();
    b.hasState(4, 0).hasStatus(0).hasWord(828, 258).hasWord(830, 15).run(0).hasCounter(92);
  }

  private static void pokesAtTheEnds() {
    checks.sentence("The word at an address becomes v.");
    for (int address : new int[] {0, 2, 1020, 1022}) {
      for (int v : new int[] {0, 1, 0x7FFF, 0x8000, 0xFFFF}) {
        WorkspaceMachine x = new WorkspaceMachine();
        x.poke(address, (char) 0x5A5A);
        x.poke(address, (char) v);
        checks.same("peek(" + address + ")", x.peek(address), v);
        checks.same("the word behind", x.peek((address + 2) & 1023), 0);
        checks.same("the word before", x.peek((address - 2) & 1023), 0);
      }
    }
  }

  private static void pokesBeyond() {
    checks.sentence("Throws IllegalArgumentException when address is odd or not 0 .. 1022.");
    WorkspaceMachine x = new WorkspaceMachine();
    for (int address : new int[] {-3, -2, -1, 1, 3, 511, 513, 1021, 1023, 1024, 1025, 1026, 2046}) {
      checks.refuses("poke(" + address + ")", () -> x.poke(address, (char) 7));
    }
    for (int address : FAR) {
      checks.refuses("poke(" + address + ")", () -> x.poke(address, (char) 7));
    }
    for (int address : new int[] {0, 2, 510, 512, 1020, 1022}) {
      checks.same("peek(" + address + ") after that", x.peek(address), 0);
    }
  }

  private static void peeksAtTheEnds() {
    checks.sentence("The word at an address.");
    WorkspaceMachine x = new WorkspaceMachine();
    int[] addresses = {0, 2, 510, 512, 1020, 1022};
    for (int address : addresses) {
      x.poke(address, (char) (0xFFFF - address));
    }
    for (int address : addresses) {
      checks.same("peek(" + address + ")", x.peek(address), 0xFFFF - address);
      checks.same("peek(" + address + ") again", x.peek(address), 0xFFFF - address);
    }
  }

  private static void peeksBeyond() {
    checks.sentence("Throws IllegalArgumentException when address is odd or not 0 .. 1022.");
    WorkspaceMachine x = new WorkspaceMachine();
    for (int address = 1; address < 1024; address += 6) {
      int odd = address;
      checks.refuses("peek(" + odd + ")", () -> x.peek(odd));
    }
    for (int address : new int[] {-3, -2, -1, 1021, 1023, 1024, 1025, 1026, 2046}) {
      checks.refuses("peek(" + address + ")", () -> x.peek(address));
    }
    for (int address : FAR) {
      checks.refuses("peek(" + address + ")", () -> x.peek(address));
    }
  }

  private static void levelsAtTheEnds() {
    checks.sentence("Requests a level 0 .. 15, until another one is, or none for 16.");
    WorkspaceMachine x = new WorkspaceMachine();
    for (int l : new int[] {0, 1, 14, 15, 16, 0, 16, 15}) {
      x.level(l);
      checks.same("state(3) after level(" + l + ")", x.state(3), l);
    }
    Bench kept = new Bench(checks, "a level is kept after its switch").status(3).word(12, 800).word(14, 90);
    kept.machine.level(3);
    kept.run(0).hasState(3, 3).hasStatus(2);
    Bench none = new Bench(checks, "none for 16").status(15).word(0, 800).word(64, 900).program(0x03A0, 0x03A0);
    none.machine.level(0);
    none.machine.level(16);
    none.run(0, 0).hasWorkspace(512).hasCounter(260).hasState(3, 16);
    Bench another = new Bench(checks, "until another one is").status(15).word(0, 800).word(60, 900).word(62, 90);
    another.machine.level(0);
    another.machine.level(15);
    another.run(0).hasWorkspace(900).hasStatus(14);
  }

  private static void levelsBeyond() {
    checks.sentence("Throws IllegalArgumentException for another.");
    WorkspaceMachine x = new WorkspaceMachine();
    x.level(15);
    for (int l : new int[] {-16, -2, -1, 17, 18, 31, 32}) {
      checks.refuses("level(" + l + ")", () -> x.level(l));
      checks.same("state(3) after that", x.state(3), 15);
    }
    for (int l : FAR) {
      checks.refuses("level(" + l + ")", () -> x.level(l));
      checks.same("state(3) after that", x.state(3), 15);
    }
  }

  private static void wiresAtTheEnds() {
    checks.sentence("A line becomes v.");
    for (int line : new int[] {0, 1, 31, 32, 62, 63}) {
      WorkspaceMachine x = new WorkspaceMachine();
      x.wire(line, false);
      checks.holds("line(" + line + ") stays 0", !x.line(line));
      x.wire(line, true);
      checks.holds("line(" + line + ") becomes 1", x.line(line));
      x.wire(line, true);
      checks.holds("line(" + line + ") stays 1", x.line(line));
      checks.holds("the line behind is 0", !x.line((line + 1) & 63));
      checks.holds("the line before is 0", !x.line((line + 63) & 63));
      checks.holds("the line 32 further is 0", !x.line((line + 32) & 63));
      x.wire(line, false);
      checks.holds("line(" + line + ") becomes 0", !x.line(line));
    }
  }

  private static void wiresBeyond() {
    checks.sentence("Throws IllegalArgumentException when line is not 0 .. 63.");
    WorkspaceMachine x = new WorkspaceMachine();
    WorkspaceMachine y = new WorkspaceMachine();
    for (int line = 0; line < 64; line++) {
      y.wire(line, true);
    }
    for (int line : new int[] {-64, -2, -1, 64, 65, 127, 128}) {
      checks.refuses("wire(" + line + ", true)", () -> x.wire(line, true));
      checks.refuses("wire(" + line + ", false)", () -> y.wire(line, false));
    }
    for (int line : FAR) {
      checks.refuses("wire(" + line + ", true)", () -> x.wire(line, true));
      checks.refuses("wire(" + line + ", false)", () -> y.wire(line, false));
    }
    for (int line = 0; line < 64; line++) {
      checks.holds("line(" + line + ") after that", !x.line(line) && y.line(line));
    }
  }

  private static void linesAtTheEnds() {
    checks.sentence("Whether a line is 1.");
    WorkspaceMachine x = new WorkspaceMachine();
    x.wire(0, true);
    x.wire(63, true);
    for (int line = 0; line < 64; line++) {
      checks.holds("line(" + line + ")", x.line(line) == (line == 0 || line == 63));
    }
  }

  private static void linesBeyond() {
    checks.sentence("Throws IllegalArgumentException when line is not 0 .. 63.");
    WorkspaceMachine x = new WorkspaceMachine();
    for (int line : new int[] {-64, -63, -2, -1, 64, 65, 127, 128}) {
      checks.refuses("line(" + line + ")", () -> x.line(line));
    }
    for (int line : FAR) {
      checks.refuses("line(" + line + ")", () -> x.line(line));
    }
  }

  private static void statesAtTheEnds() {
    checks.sentence("0 WP, 1 PC, 2 ST, 3 the level that is requested, 4 whether it is IDLE (1 or 0).");
    Bench b = new Bench(checks, "all ones").status(0xFFFF).word(300, 0x0340)
        .program(0x02E0, 0xFFFF, Code.one(1, Code.operand(Code.INDEXED, 0)), 1022).word(1020, 0x0340)
        .word(1022, Code.near(0x10, -2));
    b.run(0).hasWorkspace(1022).run(0).hasCounter(1022).run(0).hasCounter(1020).hasState(4, 0).run(1)
        .hasCounter(1022).hasStatus(0xFFFF).hasState(4, 1);
    b.machine.level(15);
    b.hasState(3, 15);
  }

  private static void statesBeyond() {
    checks.sentence("Throws IllegalArgumentException for another what.");
    WorkspaceMachine x = new WorkspaceMachine();
    for (int what : new int[] {-5, -2, -1, 5, 6, 7, 16, 255, 256}) {
      checks.refuses("state(" + what + ")", () -> x.state(what));
    }
    for (int what : FAR) {
      checks.refuses("state(" + what + ")", () -> x.state(what));
    }
  }

  private static void refusedCallsChangeNothing() {
    checks.sentence("Nothing is promised beyond the answers and state changes described above");
    Bench b = new Bench(checks, "after refused calls").status(0x1234).wires(62, "1001").word(1022, 0x5678)
        .program(0x0340).run(1);
    WorkspaceMachine x = b.machine;
    x.level(9);
    checks.refuses("poke(1024)", () -> x.poke(1024, (char) 1));
    checks.refuses("peek(1023)", () -> x.peek(1023));
    checks.refuses("level(17)", () -> x.level(17));
    checks.refuses("wire(64)", () -> x.wire(64, true));
    checks.refuses("line(-1)", () -> x.line(-1));
    checks.refuses("state(5)", () -> x.state(5));
    b.hasWorkspace(512).hasCounter(258).hasStatus(0x1234).hasState(3, 9).hasState(4, 1).hasLines(62, "1001")
        .hasWord(1022, 0x5678).hasWord(0, 0).run(1);
  }
}
