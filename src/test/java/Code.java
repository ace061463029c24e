/** Puts the fields of an instruction together. */
final class Code {
  static final int DIRECT = 0;
  static final int INDIRECT = 1;
  static final int INDEXED = 2;
  static final int GROWING = 3;

  private Code() {}

  static int operand(int kind, int n) {
    return kind << 4 | n;
  }

  /** Highest four bits 4 .. 15. */
  static int two(int operation, int source, int destination) {
    return operation << 12 | destination << 6 | source;
  }

  /** Highest six bits 8 .. 15. */
  static int register(int operation, int d, int source) {
    return operation << 10 | d << 6 | source;
  }

  /** 0400h .. 077Fh. */
  static int one(int operation, int operand) {
    return 0x0400 | operation << 6 | operand;
  }

  /** 0200h .. 03FFh. */
  static int immediate(int operation, int n) {
    return 0x0200 | operation << 5 | n;
  }

  /** 08h .. 0Bh as upper half. */
  static int shift(int kind, int count, int n) {
    return kind << 8 | count << 4 | n;
  }

  /** 10h .. 1Fh as upper half. */
  static int near(int kind, int distance) {
    return kind << 8 | distance & 0xFF;
  }
}
