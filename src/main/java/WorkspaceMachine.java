/**
 * A processor whose registers lie in memory, where its workspace pointer says.
 *
 * <p>The document's words are kept as names: workspace is WP, counter is PC, status is ST. Values of
 * words and bytes travel as ints of 16 bits; a byte travels as the upper half of such a word with 0 as
 * its lower half, which is how the document tests and compares it, so that one piece of code serves both.
 */
public final class WorkspaceMachine {
  private static final int WORD_COUNT = 512;
  private static final int LINE_COUNT = 64;
  private static final int ADDRESS_BITS = 0x3FF;
  private static final int EVEN_ADDRESS_BITS = 0x3FE;
  private static final int WORD_BITS = 0xFFFF;
  private static final int UPPER_HALF = 0xFF00;
  private static final int LOWER_HALF = 0x00FF;
  private static final int SIGN = 0x8000;

  private static final int BYTE = 1;
  private static final int WORD = 2;

  private static final int LOGICALLY_GREATER = 0x8000;
  private static final int ARITHMETICALLY_GREATER = 0x4000;
  private static final int EQUAL = 0x2000;
  private static final int COMPARED = LOGICALLY_GREATER | ARITHMETICALLY_GREATER | EQUAL;
  private static final int CARRY = 0x1000;
  private static final int OVERFLOW = 0x0800;
  private static final int PARITY = 0x0400;
  private static final int EXTENDED = 0x0200;
  private static final int MASK = 0x000F;

  private static final int DONE = 0;
  private static final int IDLING = 1;
  private static final int UNKNOWN = 2;
  private static final int NESTED = 3;

  private static final int NO_LEVEL = 16;
  private static final int EXTENDED_VECTORS = 64;

  private final Memory memory = new Memory();
  private final Lines lines = new Lines();
  private final Status status = new Status();
  private int workspace;
  private int counter;
  private int requested;
  private boolean idle;

  public WorkspaceMachine() {
    requested = NO_LEVEL;
  }

  public void reset() {
    switchThrough(0);
    status.setMask(0);
    idle = false;
  }

  public void poke(int address, char v) throws IllegalArgumentException {
    if (!isWordAddress(address)) {
      throw new IllegalArgumentException("no word has this address");
    }
    memory.setWord(address, v);
  }

  public char peek(int address) throws IllegalArgumentException {
    if (!isWordAddress(address)) {
      throw new IllegalArgumentException("no word has this address");
    }
    return (char) memory.word(address);
  }

  public int step() {
    if (requested <= status.mask()) {
      interrupt();
      return DONE;
    }
    if (idle) {
      return IDLING;
    }
    int start = counter;
    int code = fetch();
    int n = code & 15;
    int before = register(n);
    int answer = run(isExecute(code) ? memory.word(operandAddress(code, WORD)) : code);
    if (answer == UNKNOWN || answer == NESTED) {
      // What is refused changes nothing: not even the register that the operand of an X has made grow.
      counter = start;
      setRegister(n, before);
    }
    return answer;
  }

  public void level(int l) throws IllegalArgumentException {
    if (l < 0 || l > NO_LEVEL) {
      throw new IllegalArgumentException("no level has this number");
    }
    requested = l;
  }

  public void wire(int line, boolean v) throws IllegalArgumentException {
    if (!isLine(line)) {
      throw new IllegalArgumentException("no line has this number");
    }
    lines.set(line, v);
  }

  public boolean line(int line) throws IllegalArgumentException {
    if (!isLine(line)) {
      throw new IllegalArgumentException("no line has this number");
    }
    return lines.isOn(line);
  }

  public int state(int what) throws IllegalArgumentException {
    switch (what) {
      case 0:
        return workspace;
      case 1:
        return counter;
      case 2:
        return status.bits();
      case 3:
        return requested;
      case 4:
        return idle ? 1 : 0;
      default:
        throw new IllegalArgumentException("no part of the state has this number");
    }
  }

  private static boolean isWordAddress(int address) {
    return (address & EVEN_ADDRESS_BITS) == address;
  }

  private static boolean isLine(int number) {
    return number >= 0 && number < LINE_COUNT;
  }

  private static boolean isExecute(int code) {
    return (code & 0xFFC0) == 0x0480;
  }

  private void setWorkspace(int v) {
    workspace = v & EVEN_ADDRESS_BITS;
  }

  private void setCounter(int v) {
    counter = v & EVEN_ADDRESS_BITS;
  }

  private int fetch() {
    int word = memory.word(counter);
    setCounter(counter + WORD);
    return word;
  }

  private int registerAddress(int n) {
    return workspace + WORD * n;
  }

  private int register(int n) {
    return memory.word(registerAddress(n));
  }

  private void setRegister(int n, int v) {
    memory.setWord(registerAddress(n), v);
  }

  private void interrupt() {
    switchThrough(4 * requested);
    status.setMask(requested == 0 ? 0 : requested - 1);
    idle = false;
  }

  private void switchThrough(int vector) {
    int oldWorkspace = workspace;
    int newWorkspace = memory.word(vector);
    // The new counter is read before the registers are kept: these may lie upon the vector.
    int newCounter = memory.word(vector + WORD);
    setWorkspace(newWorkspace);
    setRegister(13, oldWorkspace);
    setRegister(14, counter);
    setRegister(15, status.bits());
    setCounter(newCounter);
  }

  /** The address of the operand in the lowest six bits of a code; a register that grows has grown then. */
  private int operandAddress(int code, int size) {
    int n = code & 15;
    int address;
    switch ((code >> 4) & 3) {
      case 0:
        address = registerAddress(n);
        break;
      case 1:
        address = register(n);
        break;
      case 2:
        address = fetch() + (n == 0 ? 0 : register(n));
        break;
      default:
        address = register(n);
        setRegister(n, address + size);
    }
    // Reduced here already, since a call through 64 + 4 * D shows the address in R11.
    return address & ADDRESS_BITS;
  }

  /** Does one instruction; an X is refused, since step has followed the first one already. */
  private int run(int code) {
    if (code >= 0x4000) {
      return runOnTwoOperands(code);
    }
    if (code >= 0x2000) {
      return runOnRegisterAndOperand(code);
    }
    if (code >= 0x1000) {
      return code < 0x1D00 ? runJump(code) : runOnLine(code);
    }
    if (code >= 0x0800) {
      return code < 0x0C00 ? runShift(code) : UNKNOWN;
    }
    if (isExecute(code)) {
      return NESTED;
    }
    if (code >= 0x0400) {
      return code < 0x0780 ? runOnOneOperand(code) : UNKNOWN;
    }
    return code >= 0x0200 && (code & 0x0010) == 0 ? runImmediateOrControl(code) : UNKNOWN;
  }

  private int runOnTwoOperands(int code) {
    int size = (code & 0x1000) == 0 ? WORD : BYTE;
    int s = memory.load(operandAddress(code, size), size);
    int target = operandAddress(code >> 6, size);
    int d = memory.load(target, size);
    int operation = code >> 13;
    if (operation == 4) {
      status.compare(s, d);
      status.markParity(s, size);
    } else {
      int result = combined(operation, s, d);
      memory.store(target, result, size);
      status.markParity(result, size);
    }
    return DONE;
  }

  private int combined(int operation, int s, int d) {
    switch (operation) {
      case 2:
        return status.tested(d & ~s);
      case 3:
        return status.sum(d, ~s & WORD_BITS, 1);
      case 5:
        return status.sum(d, s, 0);
      case 6:
        return status.tested(s);
      default:
        return status.tested(d | s);
    }
  }

  private int runOnRegisterAndOperand(int code) {
    int d = (code >> 6) & 15;
    int operation = code >> 10;
    switch (operation) {
      case 11:
        callExtended(d, operandAddress(code, WORD));
        break;
      case 12:
        sendLines(code, d == 0 ? 16 : d);
        break;
      case 13:
        receiveLines(code, d == 0 ? 16 : d);
        break;
      default:
        combineIntoRegister(operation, d, memory.word(operandAddress(code, WORD)));
    }
    return DONE;
  }

  private void callExtended(int number, int address) {
    switchThrough(EXTENDED_VECTORS + 4 * number);
    setRegister(11, address);
    status.mark(EXTENDED, true);
  }

  private void sendLines(int code, int count) {
    int size = sizeForLines(count);
    int s = memory.load(operandAddress(code, size), size);
    int values = size == BYTE ? s >> 8 : s;
    int first = register(12) / 2;
    for (int i = 0; i < count; i++) {
      lines.set(first + i, ((values >> i) & 1) == 1);
    }
    status.compare(s, 0);
    status.markParity(s, size);
  }

  private void receiveLines(int code, int count) {
    int size = sizeForLines(count);
    int target = operandAddress(code, size);
    int first = register(12) / 2;
    int values = 0;
    for (int i = 0; i < count; i++) {
      values |= lines.isOn(first + i) ? 1 << i : 0;
    }
    int result = status.tested(size == BYTE ? values << 8 : values);
    memory.store(target, result, size);
    status.markParity(result, size);
  }

  private static int sizeForLines(int count) {
    return count <= 8 ? BYTE : WORD;
  }

  private void combineIntoRegister(int operation, int n, int s) {
    int d = register(n);
    switch (operation) {
      case 8:
        status.mark(EQUAL, (s & ~d) == 0);
        break;
      case 9:
        status.mark(EQUAL, (s & d) == 0);
        break;
      case 10:
        setRegister(n, status.tested(d ^ s));
        break;
      case 14:
        multiply(n, d, s);
        break;
      default:
        divide(n, d, s);
    }
  }

  private void multiply(int n, int d, int s) {
    long product = (long) d * s;
    setRegister(n, (int) (product >> 16));
    setRegister(n + 1, (int) product);
  }

  private void divide(int n, int upper, int s) {
    // A divisor above the upper half is not 0, and the quotient fits into a word.
    boolean fits = s > upper;
    status.mark(OVERFLOW, !fits);
    if (fits) {
      long number = ((long) upper << 16) | register(n + 1);
      setRegister(n, (int) (number / s));
      setRegister(n + 1, (int) (number % s));
    }
  }

  private int runJump(int code) {
    if (isJumpTaken(code >> 8)) {
      setCounter(counter + 2 * (byte) code);
    }
    return DONE;
  }

  private boolean isJumpTaken(int kind) {
    boolean l = status.has(LOGICALLY_GREATER);
    boolean a = status.has(ARITHMETICALLY_GREATER);
    boolean e = status.has(EQUAL);
    switch (kind) {
      case 0x10:
        return true;
      case 0x11:
        return !a && !e;
      case 0x12:
        return !l || e;
      case 0x13:
        return e;
      case 0x14:
        return l || e;
      case 0x15:
        return a;
      case 0x16:
        return !e;
      case 0x17:
        return !status.has(CARRY);
      case 0x18:
        return status.has(CARRY);
      case 0x19:
        return !status.has(OVERFLOW);
      case 0x1A:
        return !l && !e;
      case 0x1B:
        return l && !e;
      default:
        return status.has(PARITY);
    }
  }

  private int runOnLine(int code) {
    int number = register(12) / 2 + (byte) code;
    switch (code >> 8) {
      case 0x1D:
        lines.set(number, true);
        break;
      case 0x1E:
        lines.set(number, false);
        break;
      default:
        status.mark(EQUAL, lines.isOn(number));
    }
    return DONE;
  }

  private int runShift(int code) {
    int kind = code >> 8;
    int n = code & 15;
    int count = shiftCount((code >> 4) & 15);
    int v = register(n);
    int fallen = 0;
    boolean signChanged = false;
    for (int i = 0; i < count; i++) {
      fallen = kind == 0x0A ? v >> 15 : v & 1;
      int next = shiftedOnce(kind, v);
      signChanged = signChanged || ((v ^ next) & SIGN) != 0;
      v = next;
    }
    setRegister(n, status.tested(v));
    status.mark(CARRY, fallen == 1);
    if (kind == 0x0A) {
      status.mark(OVERFLOW, signChanged);
    }
    return DONE;
  }

  private int shiftCount(int written) {
    if (written != 0) {
      return written;
    }
    int asked = register(0) & 15;
    return asked != 0 ? asked : 16;
  }

  private static int shiftedOnce(int kind, int v) {
    switch (kind) {
      case 0x08:
        return (v & SIGN) | (v >> 1);
      case 0x09:
        return v >> 1;
      case 0x0A:
        return (v << 1) & WORD_BITS;
      default:
        return (v >> 1) | ((v & 1) << 15);
    }
  }

  private int runOnOneOperand(int code) {
    int operation = (code >> 6) & 15;
    int address = operandAddress(code, WORD);
    switch (operation) {
      case 0:
        switchThrough(address);
        break;
      case 1:
        setCounter(address);
        break;
      case 10:
        setRegister(11, counter);
        setCounter(address);
        break;
      default:
        memory.setWord(address, changed(operation, memory.word(address)));
    }
    return DONE;
  }

  private int changed(int operation, int o) {
    switch (operation) {
      case 3:
        return 0;
      case 4:
        return negated(o);
      case 5:
        return status.tested(~o & WORD_BITS);
      case 6:
        return status.sum(o, 1, 0);
      case 7:
        return status.sum(o, 2, 0);
      case 8:
        return status.sum(o, 0xFFFF, 0);
      case 9:
        return status.sum(o, 0xFFFE, 0);
      case 11:
        return (o >> 8) | ((o & LOWER_HALF) << 8);
      case 12:
        return 0xFFFF;
      default:
        return withoutSign(o);
    }
  }

  private int negated(int o) {
    status.mark(CARRY, o == 0);
    status.mark(OVERFLOW, o == SIGN);
    return status.tested(-o & WORD_BITS);
  }

  private int withoutSign(int o) {
    status.compare(o, 0);
    status.mark(CARRY, false);
    status.mark(OVERFLOW, o == SIGN);
    return (o & SIGN) == 0 ? o : -o & WORD_BITS;
  }

  private int runImmediateOrControl(int code) {
    int operation = (code >> 5) & 15;
    int n = code & 15;
    if (operation <= 4) {
      runImmediate(operation, n, fetch());
      return DONE;
    }
    switch (operation) {
      case 5:
        setRegister(n, workspace);
        return DONE;
      case 6:
        setRegister(n, status.bits());
        return DONE;
      case 7:
        setWorkspace(fetch());
        return DONE;
      case 8:
        status.setMask(fetch());
        return DONE;
      case 9:
        return UNKNOWN;
      case 10:
        idle = true;
        return IDLING;
      case 11:
        status.setMask(0);
        return DONE;
      case 12:
        switchBack();
        return DONE;
      default:
        return DONE;
    }
  }

  private void runImmediate(int operation, int n, int m) {
    switch (operation) {
      case 0:
        setRegister(n, status.tested(m));
        break;
      case 1:
        setRegister(n, status.sum(register(n), m, 0));
        break;
      case 2:
        setRegister(n, status.tested(register(n) & m));
        break;
      case 3:
        setRegister(n, status.tested(register(n) | m));
        break;
      default:
        status.compare(register(n), m);
    }
  }

  private void switchBack() {
    status.setBits(register(15));
    setCounter(register(14));
    setWorkspace(register(13));
  }

  /** The words, reached by any address: its bits beyond 1023 do not count. */
  private static final class Memory {
    private final char[] words = new char[WORD_COUNT];

    int word(int address) {
      return words[(address & ADDRESS_BITS) >> 1];
    }

    void setWord(int address, int v) {
      words[(address & ADDRESS_BITS) >> 1] = (char) v;
    }

    int load(int address, int size) {
      int word = word(address);
      if (size == WORD) {
        return word;
      }
      return isUpper(address) ? word & UPPER_HALF : (word & LOWER_HALF) << 8;
    }

    void store(int address, int v, int size) {
      if (size == WORD) {
        setWord(address, v);
      } else if (isUpper(address)) {
        setWord(address, (v & UPPER_HALF) | (word(address) & LOWER_HALF));
      } else {
        setWord(address, (word(address) & UPPER_HALF) | (v >> 8));
      }
    }

    private static boolean isUpper(int address) {
      return (address & 1) == 0;
    }
  }

  /** The lines, reached by any number: only its lowest six bits count. */
  private static final class Lines {
    private long bits;

    boolean isOn(int number) {
      return (bits & bitOf(number)) != 0;
    }

    void set(int number, boolean v) {
      bits = v ? bits | bitOf(number) : bits & ~bitOf(number);
    }

    private static long bitOf(int number) {
      return 1L << (number & (LINE_COUNT - 1));
    }
  }

  /** ST, with the ways in which results become its bits. */
  private static final class Status {
    private int bits;

    int bits() {
      return bits;
    }

    void setBits(int v) {
      bits = v;
    }

    int mask() {
      return bits & MASK;
    }

    void setMask(int v) {
      bits = (bits & ~MASK) | (v & MASK);
    }

    boolean has(int bit) {
      return (bits & bit) != 0;
    }

    void mark(int bit, boolean v) {
      bits = v ? bits | bit : bits & ~bit;
    }

    void compare(int v, int u) {
      int greater = v > u ? LOGICALLY_GREATER : 0;
      int above = (short) v > (short) u ? ARITHMETICALLY_GREATER : 0;
      int same = v == u ? EQUAL : 0;
      bits = (bits & ~COMPARED) | greater | above | same;
    }

    /** Testing a word is comparing it with 0. */
    int tested(int v) {
      compare(v, 0);
      return v;
    }

    int sum(int a, int b, int one) {
      int whole = a + b + one;
      int v = whole & WORD_BITS;
      mark(CARRY, whole > WORD_BITS);
      mark(OVERFLOW, ((a ^ v) & (b ^ v) & SIGN) != 0);
      return tested(v);
    }

    /** Only instructions on bytes touch P. */
    void markParity(int v, int size) {
      if (size == BYTE) {
        mark(PARITY, (Integer.bitCount(v) & 1) == 1);
      }
    }
  }
}
