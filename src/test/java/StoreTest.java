/** Promises 16 to 19: memories, tables and globals from outside. */
final class StoreTest {
  public static void main(String[] args) {
    byte[] module = Write.module(Write.rows(1, Write.type(Write.types()), Write.type(Write.types(111))),
        Write.rows(3, Write.u(0), Write.u(1)),
        Write.rows(4, Write.join(112, 0, 3), Write.join(111, 0, 2)), Write.rows(5, Write.join(0, 1)),
        Write.rows(6, Write.join(127, 0, 65, 127, 11), Write.join(126, 0, 66, 127, 11),
            Write.join(125, 0, 67, 0, 0, 128, 255, 11), Write.join(112, 0, 208, 112, 11), Write.join(112, 0, 210, 1, 11),
            Write.join(111, 1, 208, 111, 11)),
        Write.rows(7, Write.export("m", 2, 0), Write.export("t", 1, 0), Write.export("u", 1, 1), Write.export("a", 3, 0),
            Write.export("b", 3, 1), Write.export("c", 3, 2), Write.export("d", 3, 3), Write.export("e", 3, 4),
            Write.export("g", 3, 5), Write.export("f", 0, 0), Write.export("s", 0, 1)),
        Write.rows(9, Write.join(0, 65, 1, 11, 1, 1)),
        Write.rows(10, Write.body(3, 64, 12, 0, 11), Write.body(32, 0, 36, 5, 65, 1, 32, 0, 38, 1)));
    ModuleEngine x = Write.made(module);
    memory(x);
    table(x);
    global(x);
    outside(x);
    running(x);
    Due.end();
  }

  private static void memory(ModuleEngine x) {
    Due.is("memory", x.memory(0, 0, 0), 0);
    Due.is("poke", x.poke(0, 0, 0, 511), true);
    Due.is("memory", x.memory(0, 0, 0), 255);
    Due.is("poke", x.poke(0, 0, 65535, -128), true);
    Due.is("memory", x.memory(0, 0, 65535), 128);
    Due.is("memory beyond", x.memory(0, 0, 65536), -1);
    Due.is("poke beyond", x.poke(0, 0, 65536, 1), false);
    Due.is("memory at the highest", x.memory(0, 0, -1), -1);
    Due.is("poke at the highest", x.poke(0, 0, -1, 1), false);
    Due.is("memory of a table", x.memory(0, 1, 0), -1);
    Due.is("poke of a table", x.poke(0, 1, 0, 0), false);
    Due.is("memory of no instance", x.memory(1, 0, 0), -1);
    Due.is("memory of no export", x.memory(0, 99, 0), -1);
  }

  private static void table(ModuleEngine x) {
    Due.is("none", x.table(0, 1, 0), -1);
    Due.is("a function", x.table(0, 1, 1), 1);
    Due.is("none", x.table(0, 1, 2), -1);
    Due.is("beyond", x.table(0, 1, 3), -2);
    Due.is("below", x.table(0, 1, -1), -2);
    Due.is("far below", x.table(0, 1, Integer.MIN_VALUE), -2);
    Due.is("a memory", x.table(0, 0, 0), -2);
    Due.is("no instance", x.table(-1, 1, 0), -2);
    Due.is("no export", x.table(0, -1, 0), -2);
  }

  private static void global(ModuleEngine x) {
    Due.is("i32", x.global(0, 3), 4294967295L);
    Due.is("i64", x.global(0, 4), -1);
    Due.is("f32", x.global(0, 5), 0xff800000L);
    Due.is("none", x.global(0, 6), -1);
    Due.is("a function", x.global(0, 7), 1);
    Due.is("none", x.global(0, 8), -1);
    Due.is("a table", x.global(0, 1), 0);
    Due.is("no export", x.global(0, 11), 0);
    Due.is("no instance", x.global(3, 3), 0);
  }

  private static void outside(ModuleEngine x) {
    Write.calls(x, 10, 77);
    Due.is("run", x.run(9), 5);
    Due.is("a global from outside", x.global(0, 8), 77);
    Due.is("an entry from outside", x.table(0, 2, 1), 77);
    Due.is("another entry", x.table(0, 2, 0), -1);
  }

  private static void running(ModuleEngine x) {
    Write.calls(x, 9);
    Due.is("state(0)", x.state(0), 1);
    Due.is("memory while it runs", x.memory(0, 0, 0), 255);
    Due.is("poke while it runs", x.poke(0, 0, 0, 1), false);
    Due.is("memory", x.memory(0, 0, 0), 255);
    x.give();
    Due.is("poke", x.poke(0, 0, 0, 1), true);
    Due.is("memory", x.memory(0, 0, 0), 1);
  }
}
