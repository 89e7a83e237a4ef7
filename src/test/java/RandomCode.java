import java.util.ArrayList;
import java.util.List;
import java.util.Random;

/** Writes modules of random code that is right by its types: values are i32, blocks may have one result. */
final class RandomCode {
  private final Random random;
  private final List<Object> code = new ArrayList<>();
  private int left;

  private RandomCode(Random random, int left) {
    this.random = random;
    this.left = left;
  }

  /** Exports: 0 a function (i32, i64) -> (i32, i64), 1 a memory, 2 a global. */
  static byte[] module(Random random) {
    byte[][] bodies = new byte[3][];
    for (int i = 0; i < 3; i++) bodies[i] = body(random, i);
    return Write.module(Write.rows(1, Write.type(Write.types(127, 126), 127, 126)), Write.rows(3, Write.u(0), Write.u(0), Write.u(0)),
        Write.rows(5, Write.join(0, 1)), Write.rows(6, Write.join(127, 1, 65, 3, 11)),
        Write.rows(7, Write.export("f", 0, 0), Write.export("m", 2, 0), Write.export("g", 3, 0)), Write.rows(10, bodies));
  }

  private static byte[] body(Random random, int self) {
    RandomCode out = new RandomCode(random, 40);
    out.statements(self, 0);
    out.put(self);
    out.add(32, 1);
    return Write.sized(1, 3, 127, Write.join(out.code.toArray()), 11);
  }

  private void add(Object... parts) {
    for (Object part : parts) code.add(part);
  }

  /** Local 0 and 2 .. 4 are i32. */
  private int local() {
    int i = random.nextInt(4);
    return i == 0 ? 0 : i + 1;
  }

  /** Code that puts one i32. */
  private void put(int self) {
    left--;
    int kind = left < 0 ? random.nextInt(3) : random.nextInt(14);
    switch (kind) {
      case 0: add(Write.i32(random.nextInt(40))); break;
      case 1: case 2: add(32, local()); break;
      case 3:
        put(self);
        add(34, local());
        break;
      case 4:
        put(self);
        put(self);
        put(self);
        add(27);
        break;
      case 5:
        put(self);
        add(40, 0, 0);
        break;
      case 6: add(35, 0); break;
      case 7:
        put(self);
        add(4, 127);
        put(self);
        add(5);
        put(self);
        add(11);
        break;
      case 8:
        add(2, 127);
        put(self);
        put(self);
        add(13, 0, 34, local(), 11);
        break;
      case 9:
        if (self < 2) {
          put(self);
          add(32, 1, 16, self + 1, 33, 1);
        } else {
          add(32, local(), 69);
        }
        break;
      case 10:
        put(self);
        add(new int[] {69, 103, 105, 192}[random.nextInt(4)]);
        break;
      default:
        put(self);
        put(self);
        int op = new int[] {106, 107, 108, 109, 110, 111, 112, 113, 115, 116, 70, 72, 120}[random.nextInt(13)];
        add(op);
    }
  }

  private void statements(int self, int depth) {
    int count = 1 + random.nextInt(4);
    for (int i = 0; i < count && left > 0; i++) statement(self, depth);
  }

  private void statement(int self, int depth) {
    left--;
    switch (depth > 4 ? random.nextInt(4) : random.nextInt(9)) {
      case 0: case 1:
        put(self);
        add(33, local());
        break;
      case 2:
        put(self);
        put(self);
        add(54, 0, 0);
        break;
      case 3:
        put(self);
        add(36, 0);
        break;
      case 4:
        add(2, 64);
        statements(self, depth + 1);
        put(self);
        add(13, random.nextInt(depth + 1));
        statements(self, depth + 1);
        add(11);
        break;
      case 5:
        // Its own local counts down, so most loops end.
        add(3, 64);
        statements(self, depth + 1);
        add(32, 0, 65, 1, 107, 34, 0, 65, 0, 74, 13, 0, 11);
        break;
      case 6:
        put(self);
        add(4, 64);
        statements(self, depth + 1);
        add(5);
        statements(self, depth + 1);
        add(11);
        break;
      case 7:
        add(2, 64, 2, 64);
        put(self);
        add(14, 2, 0, 1, 0, 11);
        statements(self, depth + 1);
        add(11);
        break;
      default:
        put(self);
        add(26, 1);
    }
  }
}
