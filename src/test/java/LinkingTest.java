/** Promises 5, 6 and 15, Part IV: offers, making an instance, and the limits of the store. */
final class LinkingTest {
  // Exports: 0 f () -> i32, 1 g (i32) -> (), 2 a table 1 .. 4, 3 a memory 1 .. 2, 4 and 5 globals, 6 and 7 endless ones.
  private static final byte[] GIVER = Write.module(
      Write.rows(1, Write.type(Write.types(), 127), Write.type(Write.types(127))),
      Write.rows(3, Write.u(0), Write.u(1)),
      Write.rows(4, Write.join(112, 1, 1, 4), Write.join(111, 0, 2)),
      Write.rows(5, Write.join(1, 1, 2)),
      Write.rows(6, Write.join(127, 0, 65, 5, 11), Write.join(127, 1, 65, 6, 11)),
      Write.rows(7, Write.export("f", 0, 0), Write.export("g", 0, 1), Write.export("t", 1, 0), Write.export("m", 2, 0),
          Write.export("c", 3, 0), Write.export("v", 3, 1), Write.export("u", 1, 1)),
      Write.rows(10, Write.body(65, 1), Write.body()));

  public static void main(String[] args) {
    offers();
    refusals();
    fits();
    segments();
    dropped();
    starts();
    room();
    exports();
    Due.end();
  }

  private static ModuleEngine with(byte[] second) {
    ModuleEngine x = Write.made(GIVER);
    Due.is("the second module", Write.load(x, second), 1);
    return x;
  }

  private static byte[] wants(byte[]... imports) {
    byte[][] named = new byte[imports.length][];
    for (int i = 0; i < imports.length; i++) named[i] = Write.join("a", "b", imports[i]);
    return Write.module(Write.rows(1, Write.type(Write.types()), Write.type(Write.types(), 127)), Write.rows(2, named));
  }

  private static void offers() {
    ModuleEngine x = Write.made(GIVER);
    Due.is("an export", x.offer(0, 0), 1);
    Due.is("HOST's first", x.offer(-1, 0), 2);
    Due.is("HOST's last", x.offer(-1, 63), 3);
    Due.is("HOST's beyond", x.offer(-1, 64), -1);
    Due.is("HOST's below", x.offer(-1, -1), -1);
    Due.is("an export beyond", x.offer(0, 7), -1);
    Due.is("an export below", x.offer(0, -1), -1);
    Due.is("an instance beyond", x.offer(1, 0), -1);
    Due.is("an instance below", x.offer(-2, 0), -1);
    for (int i = 4; i <= 64; i++) Due.is("offer " + i, x.offer(0, 6), i);
    Due.is("the 65th", x.offer(0, 0), -1);
    Due.is("too many for it", x.make(0), -2);
    Due.is("they are gone", x.offer(0, 0), 1);
  }

  private static void refusals() {
    ModuleEngine x = with(wants(Write.join(3, 127, 0)));
    Due.is("no such module", x.make(2), -1);
    Due.is("no such module", x.make(-1), -1);
    Due.is("without offers", x.make(1), -2);
    x.offer(0, 4);
    Due.is("no such module", x.make(2), -1);
    Due.is("offers stay", x.offer(0, 4), 2);
    Due.is("too many", x.make(1), -2);
    x.offer(0, 4);
    Write.calls(x, 0);
    Due.is("state(0)", x.state(0), 1);
    Due.is("while it runs", x.make(1), -10);
    Due.is("no such module while it runs", x.make(9), -1);
    Due.is("offers stay", x.offer(0, 0), 2);
    Due.is("run", x.run(5), 1);
    Due.is("two for one", x.make(1), -2);
    Due.is("nothing is made", x.state(6), 1);
    x.offer(0, 4);
    Due.is("it fits", x.make(1), 1);
    Due.is("state(6)", x.state(6), 2);
  }

  private static void fit(String what, byte[] wanted, int export, int answer) {
    ModuleEngine x = with(wants(wanted));
    if (export < 0) x.offer(-1, 3);
    else x.offer(0, export);
    Due.is(what, x.make(1), answer);
    Due.is(what + ": instances", x.state(6), answer == 1 ? 2 : 1);
    Due.is(what + ": offers are gone", x.offer(0, 0), 1);
  }

  private static void fits() {
    fit("a function", Write.join(0, 1), 0, 1);
    fit("a function of another type", Write.join(0, 0), 0, -3);
    fit("a function with a parameter", Write.join(0, 0), 1, -3);
    fit("HOST's function", Write.join(0, 0), -1, 1);
    fit("HOST's for a table", Write.join(1, 112, 0, 0), -1, -4);
    fit("HOST's for a memory", Write.join(2, 0, 0), -1, -5);
    fit("HOST's for a global", Write.join(3, 127, 0), -1, -6);
    fit("a global for a function", Write.join(0, 0), 4, -3);
    fit("a table", Write.join(1, 112, 0, 1), 2, 1);
    fit("a table of the other type", Write.join(1, 111, 0, 1), 2, -4);
    fit("a table that is too small", Write.join(1, 112, 0, 2), 2, -4);
    fit("a table with a greatest", Write.join(1, 112, 1, 0, 4), 2, 1);
    fit("a table with a lesser greatest", Write.join(1, 112, 1, 0, 3), 2, -4);
    fit("a table without a greatest", Write.join(1, 111, 1, 0, 9), 6, -4);
    fit("a function for a table", Write.join(1, 112, 0, 0), 0, -4);
    fit("a memory", Write.join(2, 0, 1), 3, 1);
    fit("a memory that is too small", Write.join(2, 0, 2), 3, -5);
    fit("a memory with a greatest", Write.join(2, 1, 1, 2), 3, 1);
    fit("a memory with a lesser greatest", Write.join(2, 1, 1, 1), 3, -5);
    fit("a table for a memory", Write.join(2, 0, 0), 2, -5);
    fit("a global", Write.join(3, 127, 0), 4, 1);
    fit("a global that changes", Write.join(3, 127, 1), 5, 1);
    fit("a global that must change", Write.join(3, 127, 1), 4, -6);
    fit("a global that must not change", Write.join(3, 127, 0), 5, -6);
    fit("a global of another type", Write.join(3, 126, 0), 4, -6);
    fit("a memory for a global", Write.join(3, 127, 0), 3, -6);
    ModuleEngine x = with(wants(Write.join(0, 1), Write.join(2, 0, 2), Write.join(1, 111, 0, 9)));
    x.offer(0, 0);
    x.offer(0, 3);
    x.offer(0, 2);
    Due.is("the first that does not fit", x.make(1), -5);
  }

  /** An instance whose elements and data are copied in order, up to the first that is beyond. */
  private static void segments() {
    byte[] module = Write.module(
        Write.rows(1, Write.type(Write.types())), Write.rows(3, Write.u(0), Write.u(0)),
        Write.rows(4, Write.join(112, 0, 4)), Write.rows(5, Write.join(0, 1)),
        Write.rows(7, Write.export("t", 1, 0), Write.export("m", 2, 0)), Write.section(8, 0),
        Write.rows(9, Write.join(0, 65, 0, 11, 2, 1, 0), Write.join(0, 65, 1, 11, 1, 1), Write.join(0, 65, 4, 11, 0)),
        Write.rows(10, Write.body(1), Write.body()),
        Write.rows(11, Write.join(0, 65, 5, 11, 3, 1, 2, 3), Write.join(0, 65, 6, 11, 1, 9),
            Write.join(0, 65, Write.s(65535), 11, 2, 7, 7), Write.join(0, 65, 0, 11, 1, 8)));
    ModuleEngine x = Write.made(module);
    Due.is("table 0", x.table(0, 0, 0), 1);
    Due.is("table 1", x.table(0, 0, 1), 1);
    Due.is("table 2", x.table(0, 0, 2), -1);
    int[] bytes = {0, 0, 0, 0, 0, 1, 9, 3, 0};
    for (int i = 0; i < bytes.length; i++) Due.is("memory " + i, x.memory(0, 1, i), bytes[i]);
    Due.is("nothing of one that is beyond", x.memory(0, 1, 65535), 0);
    Due.is("state(0)", x.state(0), 3);
    Due.is("state(1)", x.state(1), 5);
    Due.is("state(2)", x.state(2), 0);
    Due.is("the instance is there", x.state(6), 1);
  }

  /** Behind the element that TRAPS, elements keep what they have, DECLARED ones too. */
  private static void dropped() {
    byte[] init = Write.join(65, 0, 65, 0, 65, 1, 252, 12);
    byte[] module = Write.module(Write.rows(1, Write.type(Write.types())),
        Write.rows(3, Write.u(0), Write.u(0), Write.u(0), Write.u(0)), Write.rows(4, Write.join(112, 0, 2)),
        Write.rows(7, Write.export("a", 0, 0), Write.export("b", 0, 1), Write.export("c", 0, 2), Write.export("d", 0, 3)),
        Write.rows(9, Write.join(3, 0, 1, 0), Write.join(0, 65, 1, 11, 1, 0), Write.join(0, 65, 2, 11, 1, 0), Write.join(3, 0, 1, 0)),
        Write.rows(10, Write.body(init, 0, 0), Write.body(init, 1, 0), Write.body(init, 2, 0), Write.body(init, 3, 0)));
    ModuleEngine x = Write.made(module);
    Due.is("state(0)", x.state(0), 3);
    Due.is("state(1)", x.state(1), 6);
    int[] states = {3, 3, 2, 2};
    for (int i = 0; i < 4; i++) {
      Write.calls(x, i);
      Due.is("run", x.run(10), 4);
      Due.is("state(0) of " + i, x.state(0), states[i]);
    }
  }

  private static void starts() {
    byte[] type = Write.rows(1, Write.type(Write.types()));
    byte[] global = Write.rows(6, Write.join(127, 1, 65, 0, 11));
    byte[] module = Write.module(type, Write.rows(3, Write.u(0)), global, Write.rows(7, Write.export("g", 3, 0)),
        Write.section(8, 0), Write.rows(10, Write.body(65, 7, 36, 0)));
    ModuleEngine x = new ModuleEngine();
    x.argument(99);
    Write.load(x, module);
    Due.is("make", x.make(0), 0);
    Due.is("state(0)", x.state(0), 1);
    Due.is("make while it runs", x.make(0), -10);
    Due.is("run", x.run(1), 1);
    Due.is("global", x.global(0, 0), 0);
    Due.is("run", x.run(9), 1);
    Due.is("global", x.global(0, 0), 7);
    Due.is("state(0)", x.state(0), 2);
    Due.is("state(2)", x.state(2), 2);
    Due.is("arguments stay", x.argument(1), 2);
    byte[] empty = Write.module(type, Write.rows(3, Write.u(0)), Write.section(8, 0), Write.rows(10, Write.body(2, 64, 11)));
    x = new ModuleEngine();
    Write.load(x, empty);
    Due.is("make", x.make(0), 0);
    Due.is("it has ended", x.state(0), 2);
    byte[] host = Write.module(type, Write.rows(2, Write.join("a", "b", 0, 0)), Write.section(8, 0));
    x = new ModuleEngine();
    Write.load(x, host);
    x.offer(-1, 42);
    Due.is("make", x.make(0), 0);
    Due.is("HOST is asked", x.state(0), 5);
    Due.is("state(4)", x.state(4), 42);
    Due.is("state(3)", x.state(3), 0);
    Due.is("answer", x.answer(), true);
    Due.is("it has ended", x.state(0), 2);
  }

  /** Makes instances until the store has no room: how many, and that nothing of the next one is made. */
  private static void fill(String what, int count, byte[] module) {
    ModuleEngine x = new ModuleEngine();
    Write.load(x, module);
    for (int i = 0; i < count; i++) Due.is(what + " " + i, x.make(0), i);
    int[] before = new int[13];
    for (int i = 0; i < 13; i++) before[i] = x.state(i);
    Due.is(what + ": no room", x.make(0), -9);
    for (int i = 0; i < 13; i++) Due.is(what + ": state " + i, x.state(i), before[i]);
  }

  private static byte[] times(int id, int n, byte[] item) {
    byte[][] items = new byte[n][];
    for (int i = 0; i < n; i++) items[i] = item;
    return Write.rows(id, items);
  }

  private static void room() {
    byte[] type = Write.rows(1, Write.type(Write.types()));
    fill("instances", 16, Write.module());
    fill("functions", 8, Write.module(type, times(3, 64, Write.u(0)), times(10, 64, Write.body())));
    fill("tables", 8, Write.module(times(4, 4, Write.join(111, 0, 0))));
    fill("entries", 4, Write.module(Write.rows(4, Write.join(111, 0, Write.u(256)))));
    fill("entries at once", 0, Write.module(Write.rows(4, Write.join(111, 0, Write.u(1025)))));
    fill("entries without end", 0, Write.module(Write.rows(4, Write.join(111, 0, Write.u(4294967295L)))));
    fill("pages", 2, Write.module(Write.rows(5, Write.join(0, 3))));
    fill("pages at once", 0, Write.module(Write.rows(5, Write.join(0, 9))));
    fill("globals", 4, Write.module(times(6, 64, Write.join(127, 0, 65, 0, 11))));
    byte[] none = Write.join(208, 111, 11);
    byte[] items = Write.join(7, 111, Write.u(512), none);
    for (int i = 1; i < 512; i++) items = Write.join(items, none);
    fill("references", 4, Write.module(Write.rows(9, items)));
    byte[] host = Write.module(type, times(2, 64, Write.join("a", "b", 0, 0)));
    ModuleEngine x = new ModuleEngine();
    Write.load(x, host);
    for (int i = 0; i < 6; i++) {
      for (int k = 0; k < 64; k++) x.offer(-1, k);
      Due.is("HOST's functions are of the store", x.make(0), i);
    }
    Due.is("state(7)", x.state(7), 384);
  }

  private static void exports() {
    byte[] module = Write.module(Write.rows(1, Write.type(Write.types(127, 126), 125)),
        Write.rows(2, Write.join("a", "b", 0, 0)), Write.rows(3, Write.u(0)), Write.rows(4, Write.join(112, 0, 7)),
        Write.rows(5, Write.join(0, 3)), Write.rows(6, Write.join(124, 0, 68, new byte[8], 11)),
        Write.rows(7, Write.export("a", 0, 1), Write.export("b", 0, 0), Write.export("c", 1, 0), Write.export("d", 2, 0),
            Write.export("e", 3, 0)),
        Write.rows(10, Write.body(0)));
    ModuleEngine x = new ModuleEngine();
    Write.load(x, module);
    x.offer(-1, 0);
    Due.is("make", x.make(0), 0);
    x.offer(0, 0);
    Due.is("make", x.make(0), 1);
    int[][] due = {{0, 1, 2, 1, -1, -1}, {0, 0, 2, 1, -1, -1}, {1, 0, -1, -1, 7, -1}, {2, 0, -1, -1, 3, -1}, {3, 0, -1, -1, -1, 124}};
    int[][] second = {{0, 2}, {0, 1}, {1, 1}, {2, 1}, {3, 1}};
    for (int k = 0; k < 5; k++) {
      for (int what = 0; what < 6; what++) Due.is("export(0, " + k + ", " + what + ")", x.export(0, k, what), due[k][what]);
      for (int what = 0; what < 2; what++) Due.is("export(1, " + k + ", " + what + ")", x.export(1, k, what), second[k][what]);
    }
    Due.is("what 6", x.export(0, 0, 6), -1);
    Due.is("what -1", x.export(0, 0, -1), -1);
    Due.is("export 5", x.export(0, 5, 0), -1);
    Due.is("export -1", x.export(0, -1, 0), -1);
    Due.is("instance 2", x.export(2, 0, 0), -1);
    Due.is("instance -1", x.export(-1, 0, 0), -1);
    Due.is("pages left", x.state(8), 2);
    Due.is("entries left", x.state(9), 1024 - 14);
    Due.is("functions", x.state(7), 3);
  }
}
