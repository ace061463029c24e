/** The edges of "Terms", second paragraph: ST, testing, comparing, and P. */
public final class StatusEdgesTest {
  private static final Checks checks = new Checks("StatusEdgesTest");
  private static final int COMPARE = 8;
  private static final int COMPARE_BYTE = 9;
  private static final int MOVE = 12;
  private static final int MOVE_BYTE = 13;
  /** ST with no bit that a test makes, and with all of them. */
  private static final int[] BEFORE = {0x0000, 0xFFFF};

  public static void main(String[] args) {
    statusHas16Bits();
    theMaskIsTheLowestFour();
    wordsAreTested();
    wordsAreCompared();
    bytesAreTested();
    bytesAreCompared();
    everyByteMakesParity();
    comparedBytesMakeTheSourcesParity();
    resultsMakeParity();
    wordsLeaveParity();
    checks.end();
  }

  private static Bench bench(String name, int status) {
    return new Bench(checks, name).status(status);
  }

  private static String hex(int v) {
    return Integer.toHexString(v) + "h";
  }

  private static void statusHas16Bits() {
    checks.sentence("ST has 16 bits");
    for (int bit = 0; bit < 16; bit++) {
      int v = 1 << bit;
      bench("only " + hex(v), v).hasStatus(v).program(Code.immediate(6, 1)).run(0).hasRegister(1, v).hasStatus(v);
      bench("all but " + hex(v), 0xFFFF - v).hasStatus(0xFFFF - v).program(Code.immediate(6, 1))
          .run(0).hasRegister(1, 0xFFFF - v);
    }
    bench("unnamed bits stay", 0x01F0).register(1, 0x8000).register(2, 0x8000).program(Code.two(10, 1, 2))
        .run(0).hasStatus(0x01F0 | Due.E | Due.C | Due.O);
  }

  private static void theMaskIsTheLowestFour() {
    checks.sentence("and the lowest four, the MASK");
    for (int bit = 0; bit < 16; bit++) {
      // Level 1 goes through for any of the lowest four, and for no other.
      Bench b = bench("only " + hex(1 << bit), 1 << bit).program(0x03A0).word(4, 800).word(6, 90);
      b.machine.level(1);
      b.run(0).hasWorkspace(bit < 4 ? 800 : 512).hasStatus(bit < 4 ? 0 : 1 << bit);
    }
    Bench all = bench("all others", 0xFFF0).program(0x03A0).word(4, 800);
    all.machine.level(1);
    all.run(0).hasWorkspace(512);
  }

  private static void wordsAreTested() {
    checks.sentence("TESTING a word v: L is whether it is not 0, A whether it is above 0 (as a number with sign), "
        + "E whether it is 0.");
    int[][] rows = {{0, Due.E}, {1, Due.L | Due.A}, {0x7FFF, Due.L | Due.A}, {0x8000, Due.L}, {0xFFFF, Due.L},
      {0x0080, Due.L | Due.A}, {0xFF7F, Due.L}};
    for (int before : BEFORE) {
      for (int[] row : rows) {
        int due = Due.status(before, Due.TESTED, row[1]);
        bench(hex(row[0]) + " moved", before).register(1, row[0]).program(Code.two(MOVE, 1, 2)).run(0).hasStatus(due);
        bench(hex(row[0]) + " loaded", before).program(Code.immediate(0, 2), row[0]).run(0).hasStatus(due);
      }
    }
  }

  private static void wordsAreCompared() {
    checks.sentence("COMPARING v with u: L whether v is greater, A whether it is with sign, E whether they are equal.");
    for (int before : BEFORE) {
      for (int v : Due.WORDS) {
        for (int u : Due.WORDS) {
          String name = hex(v) + " with " + hex(u);
          int due = Due.status(before, Due.TESTED, Due.compared(v, u));
          bench(name, before).register(1, v).register(2, u).program(Code.two(COMPARE, 1, 2))
              .run(0).hasStatus(due).hasRegister(1, v).hasRegister(2, u);
          bench(name + " as next word", before).register(1, v).program(Code.immediate(4, 1), u)
              .run(0).hasStatus(due).hasRegister(1, v);
        }
      }
    }
  }

  private static void bytesAreTested() {
    checks.sentence("A byte is tested and compared as the word with it as upper half and 0 as lower");
    for (int before : BEFORE) {
      for (int v : Due.BYTES) {
        // The lower half of the word must not count: it would make 0 look like more.
        int due = Due.status(before, Due.TESTED | Due.P, Due.tested(v * 256) | Due.parity(v));
        bench(hex(v), before).register(1, v * 256 + 0xFF).register(2, 0x00FF).program(Code.two(MOVE_BYTE, 1, 2))
            .run(0).hasStatus(due).hasRegister(2, v * 256 + 0xFF);
        bench(hex(v) + " of a lower half", before).register(1, 301).word(300, 0xFF00 + v)
            .program(Code.two(MOVE_BYTE, Code.operand(Code.INDIRECT, 1), 2)).run(0).hasStatus(due);
      }
    }
  }

  private static void bytesAreCompared() {
    checks.sentence("A byte is tested and compared as the word with it as upper half and 0 as lower");
    for (int v : Due.BYTES) {
      for (int u : Due.BYTES) {
        // The lower halves would turn the answer for equal bytes, each in its own way.
        int due = Due.compared(v * 256, u * 256) | Due.parity(v);
        bench(hex(v) + " with " + hex(u), 0).register(1, v * 256 + 0xFF).register(2, u * 256)
            .program(Code.two(COMPARE_BYTE, 1, 2)).run(0).hasStatus(due);
        bench(hex(v) + " with " + hex(u) + " again", 0).register(1, v * 256).register(2, u * 256 + 0xFF)
            .program(Code.two(COMPARE_BYTE, 1, 2)).run(0).hasStatus(due).hasRegister(2, u * 256 + 0xFF);
      }
    }
  }

  private static void everyByteMakesParity() {
    checks.sentence("each instruction on bytes also makes P whether the (source's, for CB; otherwise the resulting) "
        + "byte has an odd number of ones");
    for (int v = 0; v < 256; v++) {
      int due = Due.tested(v * 256) | Due.parity(v);
      // An odd number of ones in the lower half must not count.
      bench(hex(v), Due.P - Due.parity(v)).register(1, v * 256 + 1).program(Code.two(MOVE_BYTE, 1, 2))
          .run(0).hasStatus(due);
    }
  }

  private static void comparedBytesMakeTheSourcesParity() {
    checks.sentence("each instruction on bytes also makes P whether the (source's, for CB; otherwise the resulting) "
        + "byte has an odd number of ones");
    bench("odd with even", 0).register(1, 0x0100).register(2, 0x0300).program(Code.two(COMPARE_BYTE, 1, 2))
        .run(0).hasStatus(Due.P);
    bench("even with odd", Due.P).register(1, 0x0300).register(2, 0x0100).program(Code.two(COMPARE_BYTE, 1, 2))
        .run(0).hasStatus(Due.L | Due.A);
    bench("odd with odd", 0).register(1, 0x0100).register(2, 0x0100).program(Code.two(COMPARE_BYTE, 1, 2))
        .run(0).hasStatus(Due.E | Due.P);
    bench("even with even", Due.P).register(1, 0x0300).register(2, 0x0300).program(Code.two(COMPARE_BYTE, 1, 2))
        .run(0).hasStatus(Due.E);
  }

  /** P is the other one before each row, so that it has to be made. */
  private static void resultsMakeParity() {
    checks.sentence("each instruction on bytes also makes P whether the (source's, for CB; otherwise the resulting) "
        + "byte has an odd number of ones");
    int[][] rows = {
      {5, 0x03, 0x0F, 0x0C, 0}, {5, 0x01, 0x03, 0x02, Due.P}, {5, 0x07, 0x0D, 0x08, Due.P},
      {7, 0x01, 0x02, 0x01, Due.P}, {7, 0x03, 0x05, 0x02, Due.P}, {7, 0x01, 0x04, 0x03, 0},
      {11, 0x01, 0x02, 0x03, 0}, {11, 0x03, 0x05, 0x08, Due.P}, {11, 0xFF, 0x03, 0x02, Due.P},
      {15, 0x01, 0x02, 0x03, 0}, {15, 0x03, 0x05, 0x07, Due.P}, {15, 0x00, 0x00, 0x00, 0},
    };
    for (int[] row : rows) {
      bench(row[0] + " of " + hex(row[1]) + " and " + hex(row[2]), Due.P - row[4]).register(1, row[1] * 256)
          .register(2, row[2] * 256 + 1).program(Code.two(row[0], 1, 2), Code.immediate(6, 3))
          .run(0).hasRegister(2, row[3] * 256 + 1).run(0).program(0, 0, Code.immediate(2, 3), Due.P)
          .run(0).hasRegister(3, row[4]);
    }
  }

  private static void wordsLeaveParity() {
    checks.sentence("each instruction on bytes also makes P whether the (source's, for CB; otherwise the resulting) "
        + "byte has an odd number of ones");
    for (int operation = 4; operation < 16; operation += 2) {
      for (int before : new int[] {0, Due.P}) {
        for (int s : new int[] {0x0100, 0x0300, 0x0001, 0x0003}) {
          Bench b = bench(operation + " on words, P " + before, before).register(1, s).register(2, 0x0101)
              .program(Code.two(operation, 1, 2)).run(0);
          checks.same(operation + " on words leaves P", b.machine.state(2) & Due.P, before);
        }
      }
    }
  }
}
