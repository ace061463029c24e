import java.io.IOException;
import java.lang.reflect.Method;
import java.lang.reflect.Modifier;
import java.nio.file.Files;
import java.nio.file.Path;
import java.util.ArrayList;
import java.util.List;

/** README.md's example answers as it says, and each method of the class is told there. */
public final class ReadmeTest {
  private static final Checks checks = new Checks("ReadmeTest");
  private static final Path README = Path.of("README.md");
  private static final Path SELF = Path.of("src/test/java/ReadmeTest.java");

  public static void main(String[] args) throws IOException {
    example();
    exampleIsTheOneOfReadme();
    everyMethodIsTold();
    checks.end();
  }

  private static void example() {
    // example begins
    WorkspaceMachine machine = new WorkspaceMachine();
    machine.poke(0, (char) 512);         // WP after a reset: R0 is the word at 512
    machine.poke(2, (char) 256);         // PC after a reset
    machine.poke(12, (char) 600);        // WP after a switch to level 3
    machine.poke(14, (char) 300);        // PC after a switch to level 3
    machine.poke(256, (char) 0x0200);    // R0 becomes the next word
    machine.poke(258, (char) 1234);
    machine.poke(260, (char) 0x1D05);    // the line R12 / 2 + 5 becomes 1
    machine.poke(262, (char) 0x1F06);    // E becomes the line R12 / 2 + 6
    machine.poke(264, (char) 0x0300);    // the mask becomes the lowest four bits of the next word
    machine.poke(266, (char) 3);
    machine.poke(268, (char) 0x0340);    // IDLE
    machine.reset();
    int done = machine.step();           // 0
    char r0 = machine.peek(512);         // 1234
    int status = machine.state(2);       // C000h: R0 became not 0, and above 0
    machine.step();
    boolean isOn = machine.line(5);      // true
    machine.wire(6, true);
    machine.step();
    int statusThen = machine.state(2);   // E000h: E is 1, too
    machine.step();
    int idling = machine.step();         // 1: it is IDLE, until a level not above the mask is requested
    machine.level(3);
    int switched = machine.step();       // 0
    int workspace = machine.state(0);    // 600
    char r13 = machine.peek(626);        // 512: R13 of the new workspace is the old WP
    // example ends
    checks.same("done", done, 0);
    checks.same("r0", r0, 1234);
    checks.same("status", status, 0xC000);
    checks.holds("isOn", isOn);
    checks.same("statusThen", statusThen, 0xE000);
    checks.same("idling", idling, 1);
    checks.same("switched", switched, 0);
    checks.same("workspace", workspace, 600);
    checks.same("r13", r13, 512);
  }

  private static void exampleIsTheOneOfReadme() throws IOException {
    List<String> here = between(SELF, "// example begins", "// example ends");
    List<String> there = between(README, "```java", "```");
    checks.holds("the example is not empty", !here.isEmpty());
    checks.holds("README.md has the example that is tested here", here.equals(there));
  }

  private static void everyMethodIsTold() throws IOException {
    String readme = Files.readString(README);
    checks.holds("the constructor is told", readme.contains("| `WorkspaceMachine()` |"));
    for (Method method : WorkspaceMachine.class.getDeclaredMethods()) {
      if (Modifier.isPublic(method.getModifiers())) {
        checks.holds(method.getName() + " is told", readme.contains("| `" + method.getName() + "("));
      }
    }
  }

  private static List<String> between(Path file, String first, String last) throws IOException {
    List<String> found = new ArrayList<>();
    boolean inside = false;
    for (String line : Files.readAllLines(file)) {
      String words = line.strip();
      if (inside && words.equals(last)) {
        return found;
      }
      if (inside) {
        found.add(words);
      }
      inside = inside || words.equals(first);
    }
    return found;
  }
}
