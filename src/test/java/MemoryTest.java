/** Promise 3: poke; promise 4: peek. */
public final class MemoryTest {
  private static final Checks checks = new Checks("MemoryTest");
  private static final int[] WRONG = {
    -2, -1, 1, 3, 511, 1021, 1023, 1024, 1025, 1026, 2048, 65536, -1024, Integer.MIN_VALUE, Integer.MAX_VALUE,
    Integer.MAX_VALUE - 1,
  };

  public static void main(String[] args) {
    everyWordIsItsOwn();
    wholeWordsAreKept();
    wrongAddressesAreRefused();
    checks.end();
  }

  private static void everyWordIsItsOwn() {
    for (int half = 0; half < 1024; half += 256) {
      WorkspaceMachine x = new WorkspaceMachine();
      for (int address = half; address < half + 256; address += 2) {
        x.poke(address, (char) (address * 61 + 1));
      }
      for (int address = half; address < half + 256; address += 2) {
        checks.same("peek(" + address + ")", x.peek(address), (address * 61 + 1) & 0xFFFF);
      }
      checks.same("a word beside", x.peek((half + 256) & 1023), 0);
    }
  }

  private static void wholeWordsAreKept() {
    WorkspaceMachine x = new WorkspaceMachine();
    for (int v : new int[] {0xFFFF, 0x8000, 0x7FFF, 0x00FF, 0xFF00, 1, 0}) {
      x.poke(1022, (char) v);
      checks.same("peek(1022)", x.peek(1022), v);
      checks.same("peek(1020)", x.peek(1020), 0);
    }
  }

  private static void wrongAddressesAreRefused() {
    WorkspaceMachine x = new WorkspaceMachine();
    for (int address : WRONG) {
      checks.refuses("poke(" + address + ", 9)", () -> x.poke(address, (char) 9));
      checks.refuses("peek(" + address + ")", () -> x.peek(address));
    }
    for (int address : new int[] {0, 2, 510, 512, 1020, 1022}) {
      checks.same("peek(" + address + ") after what was refused", x.peek(address), 0);
    }
  }
}
