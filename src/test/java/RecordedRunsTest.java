import java.io.IOException;
import java.nio.file.Files;
import java.nio.file.Path;
import java.util.HexFormat;
import java.util.List;

/**
 * All promises: random runs, right modules and spoilt ones, with the answers of a second, plainer
 * program for the same document (see NOTES.md for what that is worth). A line is a call and its answer.
 */
final class RecordedRunsTest {
  private static ModuleEngine x;

  public static void main(String[] args) throws IOException {
    List<String> lines = Files.readAllLines(Path.of("src/test/data/runs.txt"));
    for (int i = 0; i < lines.size(); i++) {
      String line = lines.get(i);
      if (line.equals("new")) {
        x = new ModuleEngine();
      } else if (line.startsWith("tape ")) {
        Write.feed(x, HexFormat.of().parseHex(line.substring(5)));
      } else {
        String[] halves = line.split(" = ");
        Due.is("line " + (i + 1) + ", " + halves[0], answer(halves[0].split(" ")), Long.parseLong(halves[1]));
      }
    }
    Due.end();
  }

  private static long answer(String[] call) {
    long[] n = new long[5];
    for (int i = 1; i < call.length; i++) n[i] = Long.parseLong(call[i]);
    int a = (int) n[1];
    int b = (int) n[2];
    int c = (int) n[3];
    switch (call[0]) {
      case "module": return x.module(a);
      case "fault": return x.fault(a);
      case "offer": return x.offer(a, b);
      case "make": return x.make(a);
      case "argument": return x.argument(n[1]);
      case "call": return x.call(a, b) ? 1 : 0;
      case "run": return x.run(a);
      case "give": return x.give() ? 1 : 0;
      case "answer": return x.answer() ? 1 : 0;
      case "state": return x.state(a);
      case "value": return x.value(a);
      case "tier": return x.tier(a);
      case "export": return x.export(a, b, c);
      case "memory": return x.memory(a, b, c);
      case "poke": return x.poke(a, b, c, (int) n[4]) ? 1 : 0;
      case "table": return x.table(a, b, c);
      default: return x.global(a, b);
    }
  }
}
