/** Promise 2: reset; promise 6: level; and the part of a step (promise 5) that answers a level or IDLE. */
public final class LevelTest {
  private static final Checks checks = new Checks("LevelTest");
  private static final int IDLE = 0x0340;

  public static void main(String[] args) {
    resetSwitches();
    resetEndsIdle();
    resetReadsBothWordsFirst();
    levelIsKept();
    wrongLevelsAreRefused();
    levelAboveTheMaskWaits();
    levelSwitches();
    levelZeroIsNeverHeldBack();
    idleLastsUntilALevel();
    checks.end();
  }

  private static void resetSwitches() {
    Bench b = new Bench(checks, "reset").status(0xFFFF).word(0, 0xFD01 | 0x22).word(2, 0xF803);
    b.machine.level(9);
    b.machine.reset();
    b.hasWorkspace(0x122).hasCounter(2).hasStatus(0xFFF0).hasState(3, 9).hasState(4, 0)
        .hasWord(0x122 + 26, 512).hasWord(0x122 + 28, 256).hasWord(0x122 + 30, 0xFFFF);
  }

  private static void resetEndsIdle() {
    Bench b = new Bench(checks, "reset of an IDLE").program(IDLE).run(1, 1).word(0, 600).word(2, 40).word(40, 0x0300);
    b.machine.reset();
    b.hasState(4, 0).run(0).hasCounter(44);
  }

  private static void resetReadsBothWordsFirst() {
    // The workspace at 1000 has R13 at 2, where the new PC stands.
    Bench b = new Bench(checks, "reset upon its vector").word(0, 1000).word(2, 0x0050);
    b.machine.reset();
    b.hasWorkspace(1000).hasCounter(0x50).hasWord(2, 512).hasWord(4, 256).hasWord(6, 0).hasWord(0, 1000);
  }

  private static void levelIsKept() {
    WorkspaceMachine x = new WorkspaceMachine();
    for (int l = 16; l >= 0; l--) {
      x.level(l);
      checks.same("state(3) after level(" + l + ")", x.state(3), l);
    }
  }

  private static void wrongLevelsAreRefused() {
    WorkspaceMachine x = new WorkspaceMachine();
    x.level(7);
    for (int l : new int[] {-1, 17, 18, 32, Integer.MIN_VALUE, Integer.MAX_VALUE}) {
      checks.refuses("level(" + l + ")", () -> x.level(l));
    }
    checks.same("state(3) after what was refused", x.state(3), 7);
  }

  private static void levelAboveTheMaskWaits() {
    Bench b = new Bench(checks, "level above the mask").status(4).program(0x0300, 5, 0x03A0).word(20, 700).word(22, 80);
    b.machine.level(5);
    b.run(0).hasStatus(5).hasWorkspace(512).hasCounter(260);
    b.run(0).hasStatus(4).hasWorkspace(700).hasCounter(80);
    Bench none = new Bench(checks, "no level").status(15).program(0x03A0);
    none.run(0).hasStatus(15).hasCounter(258);
  }

  private static void levelSwitches() {
    for (int l = 1; l < 16; l++) {
      Bench b = new Bench(checks, "level " + l).status(0xABF0 | l).word(4 * l, 0x8000 | 800).word(4 * l + 2, 90 + l);
      b.machine.level(l);
      b.run(0).hasWorkspace(800).hasCounter((90 + l) & ~1).hasStatus(0xABF0 | l - 1).hasState(3, l)
          .hasWord(826, 512).hasWord(828, 256).hasWord(830, 0xABF0 | l);
    }
    Bench back = new Bench(checks, "level and back").status(0x5003).word(12, 700).word(14, 80).word(80, 0x0380);
    back.machine.level(3);
    back.run(0);
    // The level is still requested, but the mask is 2 now.
    back.run(0).hasWorkspace(512).hasCounter(256).hasStatus(0x5003).run(0).hasWorkspace(700);
  }

  private static void levelZeroIsNeverHeldBack() {
    Bench b = new Bench(checks, "level 0").word(0, 700).word(2, 80).status(0x2000);
    b.machine.level(0);
    b.run(0).hasWorkspace(700).hasCounter(80).hasStatus(0x2000).hasWord(726, 512);
    b.run(0).hasWorkspace(700).hasWord(726, 700).hasWord(728, 80);
    Bench high = new Bench(checks, "level 0 under a high mask").word(0, 700).word(2, 80).status(15);
    high.machine.level(0);
    high.run(0).hasStatus(0).hasWord(730, 15);
  }

  private static void idleLastsUntilALevel() {
    Bench b = new Bench(checks, "IDLE").status(2).program(IDLE, 0x03A0).word(8, 700).word(10, 80).word(80, 0x03A0);
    b.run(1, 1).hasState(4, 1).hasCounter(258);
    b.machine.level(3);
    b.run(1).hasState(4, 1).hasCounter(258);
    b.machine.level(2);
    b.run(0).hasState(4, 0).hasStatus(1).hasWorkspace(700).hasWord(728, 258);
    b.machine.level(16);
    b.run(0).hasCounter(82);
  }
}
