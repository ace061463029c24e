/** A machine with its workspace at 512 and its program from 256 on, asked in one chain of calls. */
final class Bench {
  static final int WORKSPACE = 512;
  static final int START = 256;

  final WorkspaceMachine machine = new WorkspaceMachine();
  private final Checks checks;
  private final String name;

  Bench(Checks checks, String name) {
    this.checks = checks;
    this.name = name;
    word(0, WORKSPACE).word(2, START);
    machine.reset();
    word(0, 0).word(2, 0);
  }

  static int registerAddress(int n) {
    return (WORKSPACE + 2 * n) & 1023;
  }

  Bench word(int address, int v) {
    machine.poke(address, (char) v);
    return this;
  }

  Bench register(int n, int v) {
    return word(registerAddress(n), v);
  }

  /** Gives ST any bits, by a return from a workspace to itself (0380h). */
  Bench status(int v) {
    register(13, WORKSPACE).register(14, START).register(15, v).word(START, 0x0380);
    machine.step();
    return register(13, 0).register(14, 0).register(15, 0).word(START, 0);
  }

  Bench program(int... words) {
    for (int i = 0; i < words.length; i++) {
      word(START + 2 * i, words[i]);
    }
    return this;
  }

  Bench run(int... answers) {
    for (int due : answers) {
      checks.same(name + ": step()", machine.step(), due);
    }
    return this;
  }

  Bench hasWord(int address, int v) {
    checks.same(name + ": peek(" + address + ")", machine.peek(address), v);
    return this;
  }

  Bench hasRegister(int n, int v) {
    checks.same(name + ": R" + n, machine.peek(registerAddress(n)), v);
    return this;
  }

  Bench hasWorkspace(int v) {
    return hasState(0, v);
  }

  Bench hasCounter(int v) {
    return hasState(1, v);
  }

  Bench hasStatus(int v) {
    return hasState(2, v);
  }

  Bench hasState(int what, int v) {
    checks.same(name + ": state(" + what + ")", machine.state(what), v);
    return this;
  }

  Bench wires(int first, String values) {
    for (int i = 0; i < values.length(); i++) {
      machine.wire((first + i) & 63, values.charAt(i) == '1');
    }
    return this;
  }

  Bench hasLines(int first, String values) {
    for (int i = 0; i < values.length(); i++) {
      int number = (first + i) & 63;
      checks.same(name + ": line(" + number + ")", machine.line(number) ? 1 : 0, values.charAt(i) == '1' ? 1 : 0);
    }
    return this;
  }
}
