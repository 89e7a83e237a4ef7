/** Promises 3 and 4, Part II: the faults 29, 30 and 40 of bodies, at the instruction. */
final class BodyTest {
  // Types 0 .. 5, and a module that has one of everything.
  private static final byte[] TYPES = Write.rows(1, Write.type(Write.types()), Write.type(Write.types(), 127),
      Write.type(Write.types(127), 127), Write.type(Write.types(127, 126), 126, 127), Write.type(Write.types(127), 126),
      Write.type(Write.types(127, 127, 127, 127, 127, 127, 127, 127, 127, 127, 127, 127, 127, 127, 127, 127),
          127, 127, 127, 127, 127, 127, 127, 127, 127, 127, 127, 127, 127, 127, 127, 127));

  public static void main(String[] args) {
    plain();
    blocks();
    branches();
    calls();
    variables();
    memories();
    tables();
    dead();
    limits();
    Due.end();
  }

  private static byte[] around(byte[] body) {
    return Write.module(TYPES, Write.rows(3, Write.u(0), Write.u(1)),
        Write.rows(4, Write.join(112, 0, 1), Write.join(111, 0, 1), Write.join(112, 0, 1)),
        Write.rows(5, Write.join(0, 1)), Write.rows(6, Write.join(127, 0, 65, 0, 11), Write.join(126, 1, 66, 0, 11)),
        Write.rows(9, Write.join(1, 0, 1, 1), Write.join(5, 111, 0)), Write.section(12, 1),
        Write.rows(10, body, Write.body(65, 1)), Write.rows(11, Write.join(1, 1, 5)));
  }

  /** The fault is at so many bytes ahead of the body's END. */
  private static void code(String what, int fault, int back, Object... code) {
    byte[] body = Write.sized(2, 1, 127, 2, 126, Write.join(code), 11);
    byte[] module = around(body);
    byte[] behind = Write.join(Write.body(65, 1), Write.rows(11, Write.join(1, 1, 5)));
    Refuse.with(what, fault, module.length - behind.length - 1 - back, module);
  }

  private static void right(String what, Object... code) {
    code(what, 0, 0, code);
  }

  private static void plain() {
    right("nothing");
    right("a sum", 65, 1, 65, 2, 106, 26);
    code("a value left", 29, 0, 65, 1);
    code("no value", 29, 1, 26);
    code("one value for two", 29, 2, 65, 1, 106, 26);
    code("another type", 29, 2, 65, 1, 66, 2, 106, 26);
    code("another type below", 29, 2, 66, 1, 65, 2, 106, 26);
    code("a result's type", 29, 2, 65, 1, 69, 80, 26);
    right("27", 66, 1, 66, 2, 65, 0, 27, 80, 26);
    code("27 of two types", 29, 2, 66, 1, 65, 2, 65, 0, 27, 26);
    code("27 of references", 29, 2, 208, 112, 208, 112, 65, 0, 27, 26);
    right("28 of references", 208, 112, 208, 112, 65, 0, 28, 1, 112, 26);
    code("28 of others", 29, 4, 208, 112, 208, 112, 65, 0, 28, 1, 111, 26);
    right("209", 208, 111, 209, 69, 26);
    code("209 of a number", 29, 2, 65, 0, 209, 26);
    right("210", 210, 1, 209, 26);
    code("210 of one that is not declared", 30, 3, 210, 0, 26);
    code("210 of one that there is not", 30, 3, 210, 9, 26);
  }

  private static void blocks() {
    right("a block", 2, 64, 11);
    right("a block with a result", 2, 127, 65, 1, 11, 26);
    code("a block without its result", 29, 2, 2, 127, 11, 26);
    code("a block with more", 29, 3, 2, 127, 65, 1, 65, 2, 11, 26, 26);
    code("a block that takes from outside", 29, 4, 65, 1, 2, 64, 26, 11, 26, 0);
    right("a block with parameters", 65, 1, 2, 2, 11, 26);
    code("a block without its parameters", 29, 3, 2, 2, 11);
    right("a block of many", 65, 1, 66, 2, 2, 3, 26, 66, 5, 65, 7, 15, 11, 26, 26);
    code("a block of a type that there is not", 30, 3, 2, 6, 11);
    code("30 ahead of 29 in a 4", 30, 3, 4, 6, 11);
    code("a 4 without a value", 29, 3, 4, 64, 11);
    right("a 4 with 5", 65, 1, 4, 127, 65, 2, 5, 65, 3, 11, 26);
    code("a 4 without 5 with a result", 29, 2, 65, 1, 4, 127, 65, 2, 11, 26);
    right("a 4 without 5 of one type", 65, 1, 65, 1, 4, 2, 11, 26);
    code("a 4 without 5 of two types", 29, 2, 65, 1, 65, 1, 4, 4, 26, 66, 1, 11, 26);
    code("a 5 without the result", 29, 5, 65, 1, 4, 127, 5, 65, 2, 11, 26);
    code("a 5 with more", 29, 5, 65, 1, 4, 64, 65, 1, 5, 65, 2, 26, 11);
    right("the parameters again", 65, 1, 65, 1, 4, 2, 26, 65, 5, 5, 69, 11, 26);
  }

  private static void branches() {
    right("12", 2, 64, 12, 0, 11);
    right("12 to the function", 12, 0);
    code("12 to a label that there is not", 30, 2, 12, 1);
    code("12 without the value", 29, 4, 2, 127, 12, 0, 11, 26);
    right("12 with more", 2, 127, 66, 1, 65, 1, 12, 0, 11, 26);
    right("12 to a loop wants its parameters", 65, 1, 3, 2, 12, 0, 11, 26);
    code("12 to a loop that has results alone", 0, 0, 3, 127, 12, 0, 11, 26);
    right("13", 2, 127, 65, 1, 65, 0, 13, 0, 11, 26);
    code("13 without a value", 29, 4, 2, 127, 65, 0, 13, 0, 11, 26);
    code("13 by i64", 29, 2, 66, 0, 13, 0);
    right("14", 2, 64, 65, 0, 14, 2, 0, 1, 0, 11);
    code("14 to a label that there is not", 30, 4, 65, 0, 14, 1, 1, 0);
    code("14 to a last one that there is not", 30, 4, 65, 0, 14, 1, 0, 1);
    code("14 to labels that want other numbers", 29, 5, 2, 127, 65, 1, 65, 0, 14, 1, 1, 0, 11);
    code("14 to labels that want other types", 29, 9, 2, 127, 2, 126, 65, 1, 65, 0, 14, 1, 1, 0, 11, 26, 65, 1, 11);
    right("15", 15);
    right("15 with more", 65, 1, 15);
    right("0", 0);
  }

  private static void calls() {
    right("16", 16, 1, 26);
    right("16 of none", 16, 0);
    code("16 of one that there is not", 30, 2, 16, 2);
    right("17", 65, 0, 17, 1, 0, 26);
    right("17 with parameters", 65, 5, 65, 0, 17, 4, 2, 26);
    code("17 without parameters", 29, 3, 65, 0, 17, 2, 0);
    code("17 without a number", 29, 3, 17, 0, 0);
    code("17 of a type that there is not", 30, 3, 65, 0, 17, 6, 0);
    code("17 of a table that there is not", 30, 3, 65, 0, 17, 0, 3);
    code("17 of a table of others", 30, 3, 65, 0, 17, 0, 1);
  }

  private static void variables() {
    right("locals", 32, 0, 33, 0, 32, 1, 34, 2, 26);
    code("a local that there is not", 30, 3, 32, 3, 26);
    code("a local of another type", 29, 2, 65, 0, 33, 2);
    code("34 of another type", 29, 3, 66, 0, 34, 0, 26);
    right("globals", 35, 0, 26, 35, 1, 36, 1);
    code("a global that there is not", 30, 3, 35, 2, 26);
    code("a global that can't change", 30, 2, 65, 1, 36, 0);
    code("a global of another type", 29, 2, 65, 1, 36, 1);
  }

  private static void memories() {
    int[] types = {127, 126, 125, 124, 127, 127, 127, 127, 126, 126, 126, 126, 126, 126, 127, 126, 125, 124, 127, 127, 126, 126, 126};
    int[] widths = {2, 3, 2, 3, 0, 0, 1, 1, 0, 0, 1, 1, 2, 2, 2, 3, 2, 3, 0, 1, 0, 1, 2};
    for (int op = 40; op <= 62; op++) {
      int type = types[op - 40];
      int width = widths[op - 40];
      byte[] constant = type == 127 ? Write.i32(0) : type == 126 ? Write.i64(0) : type == 125 ? Write.f32(0) : Write.f64(0);
      if (op < 54) {
        // A local of this type takes what was loaded: only its type goes there.
        byte[] use = Write.join(2, 64, 65, 0, op, width, 0, constant, 65, 0, 27, 26, 11);
        right("load " + op, use);
        code("load " + op + " aligned above", 30, 4, 65, 0, op, width + 1, 0, 26);
        code("load " + op + " by i64", 29, 4, 66, 0, op, width, 0, 26);
      } else {
        right("store " + op, 65, 0, constant, op, width, 0);
        code("store " + op + " aligned above", 30, 3, 65, 0, constant, op, width + 1, 0);
        code("store " + op + " of a reference", 29, 3, 65, 0, 208, 111, op, width, 0);
      }
    }
    code("a great alignment", 30, 8, 65, 0, 40, Write.u(4294967295L), 0, 26);
    right("pages", 63, 0, 64, 0, 26);
    right("252 8", 65, 0, 65, 0, 65, 0, 252, 8, 0, 0);
    code("252 8 of a data that there is not", 30, 4, 65, 0, 65, 0, 65, 0, 252, 8, 1, 0);
    right("252 9", 252, 9, 0);
    code("252 9 of a data that there is not", 30, 3, 252, 9, 1);
    right("252 10", 65, 0, 65, 0, 65, 0, 252, 10, 0, 0);
    code("252 10 of two", 29, 4, 65, 0, 65, 0, 252, 10, 0, 0);
    right("252 11", 65, 0, 65, 0, 65, 0, 252, 11, 0);
    code("252 11 of i64", 29, 3, 65, 0, 66, 0, 65, 0, 252, 11, 0);
    byte[] function = Write.rows(3, Write.u(0));
    byte[][] without = {Write.join(65, 0, 40, 0, 0, 26), Write.join(63, 0, 26), Write.join(65, 0, 64, 0, 26),
        Write.join(65, 0, 65, 0, 65, 0, 252, 11, 0)};
    int[] back = {5, 4, 4, 4};
    for (int i = 0; i < without.length; i++) {
      byte[] module = Write.module(TYPES, function, Write.rows(10, Write.body(without[i])));
      Refuse.fromEnd("no memory", 30, back[i], module);
    }
  }

  private static void tables() {
    right("37", 65, 0, 37, 1, 209, 26);
    code("37 of a table that there is not", 30, 3, 65, 0, 37, 3, 26);
    right("38", 65, 0, 208, 111, 38, 1);
    code("38 of another type", 29, 2, 65, 0, 208, 112, 38, 1);
    right("252 12", 65, 0, 65, 0, 65, 0, 252, 12, 0, 2);
    code("252 12 of types", 30, 4, 65, 0, 65, 0, 65, 0, 252, 12, 0, 1);
    code("252 12 of an element that there is not", 30, 4, 65, 0, 65, 0, 65, 0, 252, 12, 2, 0);
    right("252 13", 252, 13, 1);
    code("252 13 of an element that there is not", 30, 3, 252, 13, 2);
    right("252 14", 65, 0, 65, 0, 65, 0, 252, 14, 0, 2);
    code("252 14 of types", 30, 4, 65, 0, 65, 0, 65, 0, 252, 14, 0, 1);
    right("252 15", 208, 111, 65, 0, 252, 15, 1, 26);
    code("252 15 of another type", 29, 4, 208, 112, 65, 0, 252, 15, 1, 26);
    right("252 16", 252, 16, 1, 26);
    code("252 16 of a table that there is not", 30, 4, 252, 16, 3, 26);
    right("252 17", 65, 0, 208, 111, 65, 0, 252, 17, 1);
    code("252 17 of another type", 29, 3, 65, 0, 208, 112, 65, 0, 252, 17, 1);
  }

  private static void dead() {
    right("whatever is wanted", 0, 106, 26, 26);
    right("a result", 2, 127, 0, 11, 26);
    code("what is there must be right", 29, 2, 0, 66, 1, 106, 26);
    code("no more than the results", 29, 1, 2, 64, 0, 65, 1, 11);
    right("27 of what is not known", 0, 27, 26);
    right("27 of what is known in part", 0, 65, 1, 65, 0, 27, 69, 26);
    code("27 keeps what is known", 29, 2, 0, 65, 1, 65, 0, 27, 80, 26);
    right("209 of what is not known", 0, 209, 26);
    right("13 puts what is known", 2, 127, 0, 13, 0, 69, 11, 26);
    code("13 puts the label's types", 29, 3, 2, 127, 0, 13, 0, 80, 26, 11);
    right("14 puts what it took", 2, 127, 2, 125, 0, 14, 1, 0, 1, 11, 26, 65, 1, 11, 26);
    code("30 in dead code", 30, 2, 0, 32, 9);
    code("a block in dead code is open", 29, 2, 0, 2, 64, 26, 11);
  }

  private static Object[] times(int n, Object... parts) {
    Object[] out = new Object[n];
    for (int i = 0; i < n; i++) out[i] = parts;
    return out;
  }

  private static void limits() {
    right("200 labels", times(199, 2, 64), times(199, 11));
    code("201 labels", 40, 200 + 2, times(200, 2, 64), times(200, 11));
    code("29 ahead of 40", 29, 202, times(199, 2, 64), 2, 2, times(200, 11));
    right("1000 operands", times(1000, 65, 1), 15);
    code("1001 operands", 40, 3, times(1001, 65, 1), 15);
    right("they are taken first", times(1000, 65, 1), 106, 65, 3, 0);
    code("1001 in two blocks", 40, 4, times(990, 65, 1), 2, 64, times(11, 65, 1), 15, 11);
    code("what a dead label puts", 40, 6, times(990, 65, 1), 2, 64, 0, 2, 5, 15, 11, 15, 11);
  }
}
