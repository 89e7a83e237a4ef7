import java.util.Random;

/** Promises 12 (11) and 14: when functions change over, and that nothing else tells it. */
final class TierTest {
  public static void main(String[] args) {
    settings();
    counting();
    inTheMiddle();
    together();
    withoutRoom();
    Due.end();
  }

  private static void settings() {
    ModuleEngine x = new ModuleEngine();
    Due.is("at first", x.tier(5), 0);
    Due.is("below 0", x.tier(-1), -1);
    Due.is("it stays", x.tier(2147483647), 5);
    Due.is("0", x.tier(0), 2147483647);
    Due.is("0", x.tier(0), 0);
  }

  /** Export 0 calls function 1 three times; HOST's function is not counted. */
  private static final byte[] CALLER = Write.module(Write.rows(1, Write.type(Write.types())),
      Write.rows(2, Write.join("a", "b", 0, 0)), Write.rows(3, Write.u(0), Write.u(0)),
      Write.rows(7, Write.export("f", 0, 1), Write.export("g", 0, 2), Write.export("h", 0, 0)),
      Write.rows(10, Write.body(16, 2, 16, 2, 16, 2), Write.body(1)));

  private static ModuleEngine caller() {
    ModuleEngine x = new ModuleEngine();
    Write.load(x, CALLER);
    x.offer(-1, 0);
    Due.is("make", x.make(0), 0);
    return x;
  }

  private static void counted(ModuleEngine x, int export, int due) {
    Write.calls(x, export);
    x.run(1000);
    Due.is("state(11)", x.state(11), due);
  }

  private static void counting() {
    ModuleEngine x = caller();
    counted(x, 0, 0);
    x.tier(7);
    counted(x, 0, 0);
    counted(x, 1, 1);
    counted(x, 1, 1);
    counted(x, 0, 1);
    x.tier(0);
    for (int i = 0; i < 9; i++) counted(x, 0, 1);
    x.tier(3);
    counted(x, 0, 2);
    x = caller();
    x.tier(1);
    Write.calls(x, 2);
    Due.is("HOST's", x.state(11), 0);
    x.answer();
    Write.calls(x, 0);
    Due.is("by call()", x.state(11), 1);
    Due.is("run", x.run(1), 1);
    Due.is("by 16", x.state(11), 2);
    x.offer(0, 0);
    Due.is("another instance", x.make(0), -10);
    x.give();
    Due.is("another instance", x.make(0), 1);
    x.call(1, 1);
    Due.is("its own functions", x.state(11), 3);
    x.give();
    byte[] starts = Write.module(Write.rows(1, Write.type(Write.types())), Write.rows(3, Write.u(0)), Write.section(8, 0),
        Write.rows(10, Write.body(1)));
    Write.load(x, starts);
    x.make(1);
    Due.is("by make()", x.state(11), 4);
    // What exhausts makes no frame.
    x = Write.made(Write.one(Write.types(), Write.types(), Write.body(16, 0)));
    x.tier(201);
    counted(x, 0, 0);
    counted(x, 0, 1);
  }

  /** A frame that was made before goes on with the code that it has. */
  private static void inTheMiddle() {
    ModuleEngine x = Write.made(Write.one(Write.types(127), Write.types(126),
        Write.body(32, 0, 69, 4, 126, 66, 1, 5, 32, 0, 172, 32, 0, 65, 1, 107, 16, 0, 126, 11)));
    x.argument(6);
    Due.is("call", x.call(0, 0), true);
    Due.is("run", x.run(12), 12);
    x.tier(1);
    Due.is("run", x.run(15), 15);
    x.tier(0);
    Due.is("run", x.run(1000), 6 * 10 + 4 - 27);
    Due.is("value", x.value(0), 720);
    Due.is("state(11)", x.state(11), 1);
  }

  /** A body that is too great for code for registers is counted, and runs as before. */
  private static void withoutRoom() {
    byte[] many = new byte[12000];
    java.util.Arrays.fill(many, (byte) 1);
    ModuleEngine x = Write.made(Write.one(Write.types(), Write.types(127), Write.body(many, 65, 5)));
    x.tier(1);
    Write.calls(x, 0);
    Due.is("state(11)", x.state(11), 1);
    Due.is("run", x.run(7000), 7000);
    Due.is("run", x.run(7000), 5001);
    Due.is("value", x.value(0), 5);
  }

  /** Random code runs on both machines, in runs of other sizes: all that can be told is the same. */
  private static void together() {
    Random random = new Random(14);
    for (int i = 0; i < 400; i++) {
      byte[] module = RandomCode.module(random);
      ModuleEngine x = new ModuleEngine();
      ModuleEngine y = new ModuleEngine();
      y.tier(1);
      Due.is("module", Write.load(x, module), Write.load(y, module));
      Due.is("fault", y.fault(0), 0);
      x.make(0);
      y.make(0);
      for (int k = 0; k < 4; k++) same(x, y, random);
    }
  }

  private static void same(ModuleEngine x, ModuleEngine y, Random random) {
    long[] arguments = {random.nextInt(5), random.nextLong()};
    for (long bits : arguments) {
      x.argument(bits);
      y.argument(bits);
    }
    x.call(0, 0);
    y.call(0, 0);
    for (int n = 0; n < 2000 && x.state(0) == 1; ) {
      int size = 1 + random.nextInt(9);
      int done = x.run(size);
      int other = 0;
      for (int i = 0; i < size; ) {
        int part = Math.min(size - i, 1 + random.nextInt(4));
        other += y.run(part);
        i += part;
      }
      Due.is("run", other, done);
      for (int what = 0; what < 4; what++) Due.is("state " + what, y.state(what), x.state(what));
      n += size;
    }
    for (int i = 0; i < 2; i++) Due.is("value", y.value(i), x.value(i));
    for (int i = 0; i < 64; i++) Due.is("memory", y.memory(0, 1, i), x.memory(0, 1, i));
    Due.is("global", y.global(0, 2), x.global(0, 2));
    x.give();
    y.give();
  }
}
