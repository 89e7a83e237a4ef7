/** Promises 9, 12, 13 and 14, Part V: what instructions do, on both machines and in runs of all sizes. */
final class RunningTest {
  private static final int ENDED = 2;
  private static final int TRAPPED = 3;
  private static final int EXHAUSTED = 4;

  public static void main(String[] args) {
    blocks();
    branches();
    variables();
    loads();
    stores();
    pages();
    stretches();
    tables();
    segmentsOfTables();
    calls();
    exhausted();
    locals();
    Due.end();
  }

  /** Calls export 0 with a tier and in runs of a size: how it ends, after how many steps, with what. */
  private static void once(String what, byte[] module, int tier, int size, int state, int told, int steps, long... values) {
    String name = what + " (tier " + tier + ", runs of " + size + ")";
    ModuleEngine x = new ModuleEngine();
    x.tier(tier);
    Due.is(name + ": module", Write.load(x, module), 0);
    Due.is(name + ": make", x.make(0), 0);
    Due.is(name + ": call", x.call(0, 0), true);
    for (int i = 0; i < 10000 && x.state(0) == 1; i++) x.run(size);
    Due.is(name + ": state", x.state(0), state);
    Due.is(name + ": trap", x.state(1), state == TRAPPED ? told : 0);
    Due.is(name + ": steps", x.state(2), steps);
    Due.is(name + ": frames", x.state(3), 0);
    Due.is(name + ": state(12)", x.state(12), 0);
    for (int i = 0; i < values.length; i++) Due.is(name + ": value " + i, x.value(i), values[i]);
  }

  private static void all(String what, byte[] module, int state, int told, int steps, long... values) {
    for (int tier = 0; tier < 3; tier++) {
      for (int size = 1; size < 6; size++) once(what, module, tier, size, state, told, steps, values);
      once(what, module, tier, 100000, state, told, steps, values);
    }
  }

  private static void ends(String what, byte[] module, int steps, long... values) {
    all(what, module, ENDED, 0, steps, values);
  }

  private static void traps(String what, byte[] module, int trap, int steps) {
    all(what, module, TRAPPED, trap, steps);
  }

  private static byte[] code(int[] results, Object... code) {
    return Write.one(Write.types(), results, Write.bodyWith(3, 127, code));
  }

  private static int[] i32() {
    return Write.types(127);
  }

  private static void blocks() {
    ends("nothing", code(Write.types()), 0);
    ends("1", code(Write.types(), 1, 1), 2);
    traps("0", code(Write.types(), 1, 0, 1), 1, 2);
    ends("a block's result", code(i32(), 2, 127, 65, 7, 11), 1, 7);
    ends("4, taken", code(i32(), 65, 9, 4, 127, 65, 1, 5, 65, 2, 11), 3, 1);
    ends("4, not taken", code(i32(), 65, 0, 4, 127, 65, 1, 5, 65, 2, 11), 3, 2);
    ends("4 without 5", code(Write.types(), 65, 0, 4, 64, 1, 1, 11), 2);
    ends("4 without 5, taken", code(Write.types(), 65, 1, 4, 64, 1, 1, 11), 4);
    ends("4 in 4", code(i32(), 65, 1, 4, 127, 65, 1, 4, 127, 65, 5, 5, 65, 6, 11, 5, 65, 7, 11), 5, 5);
    ends("values below a block stay", code(i32(), 65, 5, 2, 64, 1, 11, 65, 3, 107), 4, 2);
    ends("27", code(i32(), 65, 5, 65, 6, 65, 0, 27), 4, 6);
    ends("27", code(i32(), 65, 5, 65, 6, 65, 127, 27), 4, 5);
    ends("28", code(Write.types(112), 208, 112, 208, 112, 65, 1, 28, 1, 112), 4, -1);
    ends("26", code(i32(), 65, 5, 65, 6, 26), 3, 5);
    ends("constants", code(Write.types(126, 125, 124), Write.i64(Long.MIN_VALUE), Write.f32(-0f), Write.f64(1)), 3,
        Long.MIN_VALUE, 0x80000000L, 0x3ff0000000000000L);
    ends("15", code(i32(), 2, 64, 65, 1, 65, 2, 65, 3, 15, 11, 65, 4), 4, 3);
  }

  private static void branches() {
    ends("12 keeps what it wants", code(i32(), 2, 127, 65, 1, 65, 2, 65, 3, 12, 0, 11), 4, 3);
    ends("12 out of two", code(i32(), 2, 127, 65, 9, 2, 64, 65, 4, 12, 1, 11, 11), 3, 4);
    ends("13, taken", code(i32(), 2, 127, 65, 4, 65, 1, 13, 0, 26, 65, 5, 11), 3, 4);
    ends("13, not taken", code(i32(), 2, 127, 65, 4, 65, 0, 13, 0, 26, 65, 5, 11), 5, 5);
    long[] due = {10, 20, 30, 30, 30};
    int[] numbers = {0, 1, 2, 3, -1};
    for (int i = 0; i < due.length; i++) {
      ends("14 by " + numbers[i], code(i32(), 2, 64, 2, 64, 2, 64, Write.i32(numbers[i]), 14, 2, 0, 1, 2, 11, 65, 10, 15, 11, 65, 20,
          15, 11, 65, 30), due[i] == 30 ? 3 : 4, due[i]);
    }
    ends("14 with a value", code(i32(), 65, 8, 2, 127, 65, 7, 65, 0, 14, 1, 0, 1, 11, 106), 5, 15);
    ends("14 to the function", code(i32(), 65, 8, 2, 127, 65, 7, 65, 1, 14, 1, 0, 1, 11, 106), 4, 7);
    // Sums 1 .. 10 in a loop: 5 + 4 steps ten times, and the last one.
    ends("a loop", code(i32(), 65, 10, 33, 0, 3, 64, 32, 1, 32, 0, 106, 33, 1, 32, 0, 65, 1, 107, 34, 0, 13, 0, 11, 32, 1),
        2 + 9 * 10 + 1, 55);
    byte[] module = Write.module(Write.rows(1, Write.type(Write.types(), 127), Write.type(Write.types(127), 127)),
        Write.rows(3, Write.u(0)), Write.rows(7, Write.export("f", 0, 0)),
        Write.rows(10, Write.body(65, 3, 3, 1, 65, 1, 107, 34, 0, 32, 0, 13, 0, 11)));
    Refuse.with("a loop with a parameter and no local", 30, module.length - 8, module);
    module = Write.module(Write.rows(1, Write.type(Write.types(), 127), Write.type(Write.types(127), 127)),
        Write.rows(3, Write.u(0)), Write.rows(7, Write.export("f", 0, 0)),
        Write.rows(10, Write.bodyWith(1, 127, 65, 3, 3, 1, 65, 1, 107, 34, 0, 32, 0, 13, 0, 11)));
    ends("a loop with a parameter", module, 1 + 5 * 3, 0);
  }

  private static void variables() {
    ends("locals are 0", code(Write.types(127), 32, 2), 1, 0);
    ends("33", code(i32(), 65, 5, 33, 1, 32, 1), 3, 5);
    ends("34", code(Write.types(127, 127), 65, 5, 34, 1, 32, 1), 3, 5, 5);
    ends("32 is what it was", code(Write.types(127, 127), 65, 5, 33, 0, 32, 0, 65, 6, 33, 0, 32, 0), 6, 5, 6);
    ends("34 leaves what was taken", code(Write.types(127, 127, 127), 65, 5, 34, 0, 32, 0, 65, 7, 34, 0), 5, 5, 5, 7);
    ends("a local to itself", code(i32(), 65, 5, 33, 0, 32, 0, 33, 0, 32, 0, 34, 0), 6, 5);
    ends("below a block", code(Write.types(127, 127), 65, 5, 33, 0, 32, 0, 2, 64, 65, 6, 33, 0, 11, 32, 0), 6, 5, 6);
    ends("below a loop", code(Write.types(127, 127), 65, 5, 33, 0, 32, 0, 3, 64, 32, 0, 65, 1, 107, 34, 0, 13, 0, 11, 32, 0),
        3 + 5 * 5 + 1, 5, 0);
    byte[] module = Write.module(Write.rows(1, Write.type(Write.types(), 126, 126)), Write.rows(3, Write.u(0)),
        Write.rows(6, Write.join(126, 1, 66, 5, 11)), Write.rows(7, Write.export("f", 0, 0)),
        Write.rows(10, Write.body(35, 0, 66, 7, 36, 0, 35, 0)));
    ends("globals", module, 4, 5, 7);
  }

  private static byte[] memory(int[] results, Object... code) {
    return Write.module(Write.rows(1, Write.type(Write.types(), results)), Write.rows(3, Write.u(0)),
        Write.rows(5, Write.join(1, 1, 3)), Write.rows(7, Write.export("f", 0, 0)), Write.section(12, 2),
        Write.rows(10, Write.body(code)), Write.rows(11, Write.join(0, 65, 8, 11, 8, 0xf1, 0xe2, 0xd3, 0xc4, 0xb5, 0xa6, 0x97, 0x88),
            Write.join(1, 4, 1, 2, 3, 4)));
  }

  private static void loads() {
    int[] types = {127, 126, 125, 124, 127, 127, 127, 127, 126, 126, 126, 126, 126, 126};
    long[] due = {0xc4d3e2f1L, 0x8897a6b5c4d3e2f1L, 0xc4d3e2f1L, 0x8897a6b5c4d3e2f1L, 0xfffffff1L, 0xf1, 0xffffe2f1L, 0xe2f1,
        0xfffffffffffffff1L, 0xf1, 0xffffffffffffe2f1L, 0xe2f1, 0xffffffffc4d3e2f1L, 0xc4d3e2f1L};
    int[] widths = {4, 8, 4, 8, 1, 1, 2, 2, 1, 1, 2, 2, 4, 4};
    for (int i = 0; i < 14; i++) {
      int op = 40 + i;
      ends("load " + op, memory(Write.types(types[i]), 65, 8, op, 0, 0), 2, due[i]);
      ends("load with an offset " + op, memory(Write.types(types[i]), 65, 3, op, 0, 5), 2, due[i]);
      int last = 65536 - widths[i];
      ends("load at the end " + op, memory(Write.types(types[i]), Write.i32(last), op, 0, 0), 2, 0);
      traps("load beyond " + op, memory(Write.types(types[i]), Write.i32(last + 1), op, 0, 0), 5, 2);
    }
    traps("a great address", memory(i32(), Write.i32(-1), 45, 0, 0), 5, 2);
    traps("a great sum", memory(i32(), Write.i32(-1), 45, 0, Write.u(4294967295L)), 5, 2);
    traps("a great offset", memory(i32(), Write.i32(1), 45, 0, Write.u(65535)), 5, 2);
    ends("signs", memory(Write.types(127, 127), 65, 15, 44, 0, 0, 65, 0, 44, 0, 0), 4, 0xffffff88L, 0);
  }

  private static void stores() {
    Object[] values = {Write.i32(0x81828384), Write.i64(0x8182838485868788L), Write.join(67, Write.lowest(0x81828384, 4)),
        Write.join(68, Write.lowest(0x8182838485868788L, 8)), Write.i32(0x81828384), Write.i32(0x81828384), Write.i64(0x8182838485868788L),
        Write.i64(0x8182838485868788L), Write.i64(0x8182838485868788L)};
    long[] due = {0x81828384L, 0x8182838485868788L, 0x81828384L, 0x8182838485868788L, 0x84, 0x8384, 0x88, 0x8788, 0x85868788L};
    int[] widths = {4, 8, 4, 8, 1, 2, 1, 2, 4};
    for (int i = 0; i < 9; i++) {
      int op = 54 + i;
      ends("store " + op, memory(Write.types(126), 65, 32, values[i], op, 0, 0, 65, 32, 41, 0, 0), 5, due[i]);
      int last = 65536 - widths[i];
      ends("store at the end " + op, memory(Write.types(), Write.i32(last), values[i], op, 0, 0), 3);
      traps("store beyond " + op, memory(Write.types(), Write.i32(last + 1), values[i], op, 0, 0), 5, 3);
    }
    ends("across pages", memory(Write.types(126, 127), 65, 1, 64, 0, 26, Write.i32(65533), Write.i64(0x0102030405060708L), 55, 0, 0,
        Write.i32(65533), 41, 0, 0, Write.i32(65536), 45, 0, 0), 10, 0x0102030405060708L, 5);
  }

  private static void pages() {
    ends("63", memory(i32(), 63, 0), 1, 1);
    ends("64", memory(Write.types(127, 127, 127), 65, 2, 64, 0, 65, 0, 64, 0, 63, 0), 5, 1, 3, 3);
    ends("64 above the greatest", memory(Write.types(127, 127), 65, 3, 64, 0, 63, 0), 3, 4294967295L, 1);
    ends("64 by very many", memory(Write.types(127, 127), 65, 127, 64, 0, 63, 0), 3, 4294967295L, 1);
    byte[] endless = Write.module(Write.rows(1, Write.type(Write.types(), 127, 127)), Write.rows(3, Write.u(0)),
        Write.rows(5, Write.join(0, 1)), Write.rows(7, Write.export("f", 0, 0)), Write.rows(10, Write.body(65, 7, 64, 0, 65, 1, 64, 0)));
    ends("64 beyond what the engine has", endless, 4, 1, 4294967295L);
  }

  private static void stretches() {
    ends("252 11", memory(Write.types(126), 65, 17, Write.i32(0x1ff), 65, 3, 252, 11, 0, 65, 16, 41, 0, 0), 6, 0xffffff00L);
    ends("252 11 of 0 at the end", memory(Write.types(), Write.i32(65536), 65, 1, 65, 0, 252, 11, 0), 4);
    traps("252 11 of 0 beyond", memory(Write.types(), Write.i32(65537), 65, 1, 65, 0, 252, 11, 0), 5, 4);
    traps("252 11 beyond", memory(Write.types(), Write.i32(65535), 65, 1, 65, 2, 252, 11, 0), 5, 4);
    ends("252 10 upwards", memory(Write.types(126), 65, 9, 65, 8, 65, 7, 252, 10, 0, 0, 65, 8, 41, 0, 0), 6, 0x97a6b5c4d3e2f1f1L);
    ends("252 10 downwards", memory(Write.types(126), 65, 7, 65, 8, 65, 8, 252, 10, 0, 0, 65, 7, 41, 0, 0), 6, 0x8897a6b5c4d3e2f1L);
    traps("252 10 from beyond", memory(Write.types(), 65, 0, Write.i32(65536), 65, 1, 252, 10, 0, 0), 5, 4);
    traps("252 10 to beyond", memory(Write.types(), Write.i32(65536), 65, 0, 65, 1, 252, 10, 0, 0), 5, 4);
    ends("252 10 across pages", memory(Write.types(126, 126), 65, 2, 64, 0, 26, Write.i32(65530), 65, 8, 65, 8, 252, 10, 0, 0,
        Write.i32(131070), Write.i32(65528), 65, 10, 252, 10, 0, 0, Write.i32(131072), 41, 0, 0,
        Write.i32(65532), Write.i32(131070), 65, 10, 252, 10, 0, 0, Write.i32(65534), 41, 0, 0), 19,
        0x8897a6b5c4d3e2f1L, 0x8897a6b5c4d3e2f1L);
    ends("252 8", memory(Write.types(126), 65, 9, 65, 1, 65, 2, 252, 8, 1, 0, 65, 8, 41, 0, 0), 6, 0x8897a6b5c40302f1L);
    traps("252 8 beyond the data", memory(Write.types(), 65, 0, 65, 3, 65, 2, 252, 8, 1, 0), 5, 4);
    traps("252 8 beyond the memory", memory(Write.types(), Write.i32(65535), 65, 0, 65, 2, 252, 8, 1, 0), 5, 4);
    traps("252 8 of an active one", memory(Write.types(), 65, 0, 65, 0, 65, 1, 252, 8, 0, 0), 5, 4);
    ends("252 8 of 0 of an active one", memory(Write.types(), 65, 0, 65, 0, 65, 0, 252, 8, 0, 0), 4);
    traps("252 9", memory(Write.types(), 252, 9, 1, 65, 0, 65, 0, 65, 1, 252, 8, 1, 0), 5, 5);
  }

  private static byte[] table(int[] results, Object... code) {
    return Write.module(Write.rows(1, Write.type(Write.types(), results), Write.type(Write.types())),
        Write.rows(3, Write.u(0), Write.u(1)), Write.rows(4, Write.join(112, 1, 4, 6), Write.join(112, 0, 3)),
        Write.rows(7, Write.export("f", 0, 0), Write.export("g", 0, 1)),
        Write.rows(9, Write.join(1, 0, 3, 0, 1, 0), Write.join(0, 65, 1, 11, 2, 1, 0), Write.join(3, 0, 1, 1)),
        Write.rows(10, Write.body(code), Write.body()));
  }

  private static void tables() {
    ends("37", table(Write.types(112, 112), 65, 0, 37, 0, 65, 1, 37, 0), 4, -1, 1);
    traps("37 beyond", table(Write.types(112), 65, 4, 37, 0), 6, 2);
    traps("37 far beyond", table(Write.types(112), 65, 127, 37, 0), 6, 2);
    ends("38", table(Write.types(112), 65, 3, 210, 1, 38, 0, 65, 3, 37, 0), 5, 1);
    traps("38 beyond", table(Write.types(), 65, 4, 210, 1, 38, 0), 6, 3);
    ends("209", table(Write.types(127, 127), 208, 112, 209, 210, 0, 209), 4, 1, 0);
    ends("252 15", table(Write.types(127, 127, 112), 210, 1, 65, 2, 252, 15, 0, 252, 16, 0, 65, 5, 37, 0), 6, 4, 6, 1);
    ends("252 15 above the greatest", table(Write.types(127, 127), 210, 1, 65, 3, 252, 15, 0, 252, 16, 0), 4, 4294967295L, 4);
    ends("252 15 beyond what the engine has", table(Write.types(127, 127), 208, 112, Write.i32(1018), 252, 15, 1, 252, 16, 1), 4,
        4294967295L, 3);
    ends("252 15 to all that the engine has", table(Write.types(127, 127), 208, 112, Write.i32(1017), 252, 15, 1, 252, 16, 1), 4,
        3, 1020);
    ends("252 17", table(Write.types(112, 112), 65, 2, 208, 112, 65, 2, 252, 17, 0, 65, 2, 37, 0, 65, 1, 37, 0), 8, -1, 1);
    traps("252 17 beyond", table(Write.types(), 65, 3, 208, 112, 65, 2, 252, 17, 0), 6, 4);
    ends("252 17 of 0 at the end", table(Write.types(), 65, 4, 208, 112, 65, 0, 252, 17, 0), 4);
    traps("252 17 of 0 beyond", table(Write.types(), 65, 5, 208, 112, 65, 0, 252, 17, 0), 6, 4);
  }

  private static void segmentsOfTables() {
    ends("252 12", table(Write.types(112, 112), 65, 0, 65, 1, 65, 2, 252, 12, 0, 0, 65, 0, 37, 0, 65, 1, 37, 0), 8, 1, 0);
    traps("252 12 beyond the element", table(Write.types(), 65, 0, 65, 2, 65, 2, 252, 12, 0, 0), 6, 4);
    traps("252 12 beyond the table", table(Write.types(), 65, 3, 65, 0, 65, 2, 252, 12, 0, 0), 6, 4);
    traps("252 12 of an active one", table(Write.types(), 65, 0, 65, 0, 65, 1, 252, 12, 1, 0), 6, 4);
    traps("252 12 of a declared one", table(Write.types(), 65, 0, 65, 0, 65, 1, 252, 12, 2, 0), 6, 4);
    traps("252 13", table(Write.types(), 252, 13, 0, 65, 0, 65, 0, 65, 1, 252, 12, 0, 0), 6, 5);
    ends("252 14 upwards", table(Write.types(112, 112), 65, 2, 65, 1, 65, 2, 252, 14, 0, 0, 65, 2, 37, 0, 65, 3, 37, 0), 8, 1, 0);
    ends("252 14 downwards", table(Write.types(112, 112), 65, 0, 65, 1, 65, 2, 252, 14, 0, 0, 65, 0, 37, 0, 65, 1, 37, 0), 8, 1, 0);
    ends("252 14 to another", table(Write.types(112, 112), 65, 0, 65, 1, 65, 2, 252, 14, 1, 0, 65, 0, 37, 1, 65, 2, 37, 1), 8, 1, -1);
    traps("252 14 from beyond", table(Write.types(), 65, 0, 65, 3, 65, 2, 252, 14, 1, 0), 6, 4);
    traps("252 14 to beyond", table(Write.types(), 65, 2, 65, 0, 65, 2, 252, 14, 1, 0), 6, 4);
  }

  private static void calls() {
    byte[] types = Write.rows(1, Write.type(Write.types(), 127, 126), Write.type(Write.types(127, 126), 126, 127),
        Write.type(Write.types(127, 126), 126, 127), Write.type(Write.types()));
    byte[] functions = Write.rows(3, Write.u(0), Write.u(1), Write.u(3));
    byte[] swap = Write.body(32, 1, 32, 0);
    byte[] table = Write.rows(4, Write.join(112, 0, 4));
    byte[] export = Write.rows(7, Write.export("f", 0, 0));
    byte[] element = Write.rows(9, Write.join(0, 65, 0, 11, 3, 1, 2, 2));
    Object[][] bodies = {{16, 1}, {65, 0, 17, 1, 0}, {65, 0, 17, 2, 0}};
    for (Object[] call : bodies) {
      byte[] body = Write.sized(2, 1, 127, 1, 126, 65, 5, 66, 6, Write.join(call), 16, 2, 33, 0, 33, 1, 32, 0, 32, 1, 11);
      int steps = call.length == 2 ? 3 : 4;
      ends("a call", Write.module(types, functions, table, export, element, Write.rows(10, body, swap, Write.body())), steps + 2 + 1 + 4, 5, 6);
    }
    int[][] wrong = {{4, 7}, {-1, 7}, {3, 8}, {1, 9}};
    for (int[] one : wrong) {
      byte[] body = Write.body(65, 5, 66, 6, Write.i32(one[0]), 17, 1, 0, 0);
      traps("17 at " + one[0], Write.module(types, functions, table, export, element, Write.rows(10, body, swap, Write.body())), one[1], 4);
    }
  }

  private static void exhausted() {
    byte[] endless = Write.one(Write.types(), Write.types(), Write.body(16, 0));
    all("200 frames", endless, EXHAUSTED, 0, 200);
    // Each frame asks for 1000 locals and one operand: the fifth finds no room.
    byte[] wide = Write.one(Write.types(), Write.types(), Write.bodyWith(1000, 126, 65, 0, 26, 16, 0));
    all("4096 values", wide, EXHAUSTED, 0, 4 * 3);
    // 4 * 1024 values fit, and not one more: the operand that was there at the most counts.
    Object[] full = new Object[24];
    java.util.Arrays.fill(full, Write.join(65, 0));
    byte[] just = Write.one(Write.types(), Write.types(), Write.bodyWith(1000, 126, full, 0));
    traps("1024 values", just, 1, 25);
    byte[] counts = Write.module(Write.rows(1, Write.type(Write.types())), Write.rows(3, Write.u(0)),
        Write.rows(6, Write.join(127, 1, 65, 0, 11)), Write.rows(7, Write.export("f", 0, 0)),
        Write.rows(10, Write.bodyWith(1000, 126, full, 15, 16, 0)));
    ends("it returns", counts, 25);
    // In dead code what is put counts: 24 operands behind 0.
    byte[] dead = Write.module(Write.rows(1, Write.type(Write.types())), Write.rows(3, Write.u(0)), Write.rows(7, Write.export("f", 0, 0)),
        Write.rows(10, Write.bodyWith(1000, 126, 16, 0, 0, full, 15)));
    all("what dead code puts", dead, EXHAUSTED, 0, 4);
    Object[] more = new Object[25];
    java.util.Arrays.fill(more, Write.join(65, 0));
    byte[] deader = Write.module(Write.rows(1, Write.type(Write.types())), Write.rows(3, Write.u(0)), Write.rows(7, Write.export("f", 0, 0)),
        Write.rows(10, Write.bodyWith(1000, 126, 16, 0, 0, more, 15)));
    all("one more", deader, EXHAUSTED, 0, 3);
    // The results at the last END do not count, nor what dead code takes.
    int[] sixteen = new int[16];
    java.util.Arrays.fill(sixteen, 127);
    for (int locals = 80; locals <= 81; locals++) {
      byte[] wideOne = Write.bodyWith(1000, 126, 16, 1);
      byte[] last = Write.module(Write.rows(1, Write.type(Write.types()), Write.type(Write.types(), sixteen)),
          Write.rows(3, Write.u(0), Write.u(0), Write.u(0), Write.u(0), Write.u(0), Write.u(1)), Write.rows(7, Write.export("f", 0, 0)),
          Write.rows(10, wideOne, Write.bodyWith(1000, 126, 16, 2), Write.bodyWith(1000, 126, 16, 3), Write.bodyWith(1000, 126, 16, 4),
              Write.bodyWith(locals, 126, 16, 5, 0), Write.body(0)));
      if (locals == 80) traps("the last END", last, 1, 6);
      else all("one local more", last, EXHAUSTED, 0, 4);
    }
  }

  private static void locals() {
    byte[] module = Write.module(Write.rows(1, Write.type(Write.types(127), 127, 112, 111, 124), Write.type(Write.types(), 127, 112, 111, 124)),
        Write.rows(3, Write.u(1), Write.u(0)), Write.rows(7, Write.export("f", 0, 0)), Write.rows(9, Write.join(3, 0, 1, 0)),
        Write.rows(10, Write.body(65, 8, 16, 1, 26, 26, 26, 26, 65, 9, 16, 1),
            Write.sized(4, 1, 112, 0, 112, 2, 111, 1, 124, 32, 0, 32, 1, 32, 3, 32, 4, 210, 0, 33, 1, 11)));
    ends("locals that are no parameters", module, 2 + 6 + 4 + 2 + 6, 9, -1, -1, 0);
  }
}
