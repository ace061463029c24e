/** Promise 5: 10h .. 1Ch as upper half. */
public final class JumpTest {
  private static final Checks checks = new Checks("JumpTest");

  /** L, A, E, C, O, P. */
  private static final int[] BITS = {0x8000, 0x4000, 0x2000, 0x1000, 0x0800, 0x0400};

  public static void main(String[] args) {
    for (int bits = 0; bits < 64; bits++) {
      conditions(bits);
    }
    distances();
    checks.end();
  }

  private static void conditions(int bits) {
    int status = 0;
    for (int i = 0; i < BITS.length; i++) {
      status |= (bits >> i & 1) == 1 ? BITS[i] : 0;
    }
    boolean l = (bits & 1) != 0;
    boolean a = (bits & 2) != 0;
    boolean e = (bits & 4) != 0;
    boolean c = (bits & 8) != 0;
    boolean o = (bits & 16) != 0;
    boolean p = (bits & 32) != 0;
    boolean neitherAE = !(a || e);
    boolean neitherLE = !(l || e);
    boolean[] due = {true, neitherAE, !l || e, e, l || e, a, !e, !c, c, !o, neitherLE, l && !e, p};
    for (int i = 0; i < due.length; i++) {
      new Bench(checks, "jump " + Integer.toHexString(0x10 + i) + "h with ST " + Integer.toHexString(status) + "h")
          .status(status).program(Code.near(0x10 + i, 5)).run(0).hasCounter(due[i] ? 268 : 258).hasStatus(status);
    }
  }

  private static void distances() {
    jump(0, 258);
    jump(-1, 256);
    jump(127, 512);
    jump(-128, 2);
    new Bench(checks, "jump below 0").program(Code.near(0x10, -128)).word(2, Code.near(0x10, -128))
        .run(0, 0).hasCounter(1024 + 4 - 256);
  }

  private static void jump(int distance, int due) {
    new Bench(checks, "jump by " + distance).program(Code.near(0x10, distance)).run(0).hasCounter(due);
  }
}
