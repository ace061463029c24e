/** What ST is due to be, reckoned with signed and unsigned numbers instead of the class's bits. */
final class Due {
  static final int L = 0x8000;
  static final int A = 0x4000;
  static final int E = 0x2000;
  static final int C = 0x1000;
  static final int O = 0x0800;
  static final int P = 0x0400;
  static final int X = 0x0200;
  static final int TESTED = L | A | E;
  static final int SUMMED = TESTED | C | O;

  /** Words at which L, A, E, C or O turn. */
  static final int[] WORDS = {
    0x0000, 0x0001, 0x0002, 0x00FF, 0x0100, 0x7FFE, 0x7FFF, 0x8000, 0x8001, 0x8002, 0xFF00, 0xFFFD, 0xFFFE, 0xFFFF,
  };

  /** Bytes at which they turn. */
  static final int[] BYTES = {0x00, 0x01, 0x02, 0x7E, 0x7F, 0x80, 0x81, 0xFE, 0xFF};

  private Due() {}

  private static int signed(int word) {
    return word < 0x8000 ? word : word - 0x10000;
  }

  /** The bits that testing a word makes. */
  static int tested(int v) {
    return compared(v, 0);
  }

  static int compared(int v, int u) {
    return (v > u ? L : 0) + (signed(v) > signed(u) ? A : 0) + (v == u ? E : 0);
  }

  /** The bits that a sum of words makes. */
  static int added(int d, int s) {
    int whole = signed(d) + signed(s);
    return tested((d + s) % 0x10000) + (d + s > 0xFFFF ? C : 0) + (isOutside(whole) ? O : 0);
  }

  /** The bits that a difference of words makes: a bit is carried out unless d is below s. */
  static int subtracted(int d, int s) {
    int whole = signed(d) - signed(s);
    return tested((d - s + 0x10000) % 0x10000) + (d >= s ? C : 0) + (isOutside(whole) ? O : 0);
  }

  static int parity(int value) {
    int ones = 0;
    for (int bit = 0; bit < 8; bit++) {
      ones += value >> bit & 1;
    }
    return ones % 2 == 1 ? P : 0;
  }

  private static boolean isOutside(int number) {
    return number < -32768 || number > 32767;
  }

  /** ST with some of its bits made anew. */
  static int status(int before, int made, int bits) {
    return before & ~made | bits;
  }
}
