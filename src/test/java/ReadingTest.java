/** Promises 3 and 4, Part I: the faults 1 to 14 with their places. */
final class ReadingTest {
  private static final byte[] TYPE = Write.rows(1, Write.type(Write.types()));
  private static final byte[] FUNCTION = Write.rows(3, Write.u(0));

  public static void main(String[] args) {
    ends();
    numbers();
    sections();
    bytes();
    types();
    names();
    instructions();
    counts();
    Due.end();
  }

  private static byte[] code(Object... code) {
    return Write.module(TYPE, FUNCTION, Write.rows(10, Write.body(code)));
  }

  private static byte[] raw(int... bytes) {
    byte[] out = new byte[bytes.length];
    for (int i = 0; i < bytes.length; i++) out[i] = (byte) bytes[i];
    return out;
  }

  private static void ends() {
    Refuse.with("nothing", 1, 0, raw());
    Refuse.with("half a beginning", 1, 5, raw(0, 97, 115, 109, 1));
    Refuse.with("another beginning", 5, 3, raw(0, 97, 115, 110, 1, 0, 0, 0));
    Refuse.with("another version", 5, 4, raw(0, 97, 115, 109, 2));
    Refuse.with("an id alone", 1, 9, Write.module(raw(1)));
    Refuse.with("an empty section", 1, 10, Write.module(raw(1, 0)));
    Refuse.with("a row cut off", 1, 12, Write.module(raw(1, 2, 1, 96)));
    Refuse.with("a name beyond its section", 1, 13, Write.module(raw(7, 3, 1, 5, 97), raw(0, 9, 9, 9, 9)));
    Refuse.with("a section too long", 2, 9, Write.module(raw(1, 5, 0)));
    Refuse.with("a section just long enough", 0, -1, Write.module(raw(1, 1, 0)));
    Refuse.with("a section with more", 3, 11, Write.module(raw(1, 2, 0, 7)));
    Refuse.with("a body too long", 2, 21, Write.module(TYPE, FUNCTION, raw(10, 4, 1, 3, 0, 11)));
    Refuse.fromEnd("a body with more", 3, 1, Write.module(TYPE, FUNCTION, raw(10, 5, 1, 3, 0, 11, 1)));
    Refuse.with("a body cut off", 1, 24, Write.module(TYPE, FUNCTION, raw(10, 4, 1, 2, 0, 1), raw(0, 1, 0)));
    Refuse.fromEnd("a constant cut off", 1, 0, Write.module(TYPE, FUNCTION, raw(10, 6, 1, 4, 0, 67, 1, 2)));
  }

  private static void numbers() {
    Refuse.with("a fifth byte of 16", 4, 13, Write.module(raw(1, 128, 128, 128, 128, 16)));
    Refuse.with("a fifth byte that goes on", 4, 13, Write.module(raw(1, 129, 128, 128, 128, 128, 0)));
    Refuse.with("a fifth byte of 0", 0, -1, Write.module(raw(1, 129, 128, 128, 128, 0, 0)));
    Refuse.with("a fifth byte of 15", 2, 9, Write.module(raw(1, 255, 255, 255, 255, 15)));
    Refuse.not("the least S32", code(65, raw(128, 128, 128, 128, 120), 26));
    Refuse.fromEnd("S32 with a wrong sign", 4, 3, code(65, raw(128, 128, 128, 128, 8), 26));
    Refuse.fromEnd("S32 with bits above", 4, 3, code(65, raw(128, 128, 128, 128, 16), 26));
    Refuse.not("the greatest S32", code(65, raw(255, 255, 255, 255, 7), 26));
    Refuse.fromEnd("S32 that goes on", 4, 4, code(65, raw(128, 128, 128, 128, 128, 0), 26));
    Refuse.not("the least S64", code(66, raw(128, 128, 128, 128, 128, 128, 128, 128, 128, 127), 26));
    Refuse.fromEnd("S64 of 1", 4, 3, code(66, raw(128, 128, 128, 128, 128, 128, 128, 128, 128, 1), 26));
    Refuse.fromEnd("S64 of 126", 4, 3, code(66, raw(128, 128, 128, 128, 128, 128, 128, 128, 128, 126), 26));
    Refuse.not("S64 of 0", code(66, raw(255, 128, 128, 128, 128, 128, 128, 128, 128, 0), 26));
    Refuse.fromEnd("S33 with a wrong sign", 4, 3, code(2, raw(128, 128, 128, 128, 16), 11));
    Refuse.fromEnd("S33 below 0", 8, 7, code(2, raw(128, 128, 128, 128, 112), 11));
    Refuse.not("S33 of 0 in five", code(2, raw(128, 128, 128, 128, 0), 11));
    Refuse.fromEnd("64 in two bytes", 8, 4, code(2, raw(192, 127), 11));
  }

  private static void sections() {
    byte[] custom = Write.section(0, "x", 1, 2, 3);
    Refuse.not("0 any time", Write.module(custom, TYPE, custom, custom, FUNCTION, Write.rows(10, Write.body()), custom));
    Refuse.with("id 13", 6, 8, Write.module(raw(13, 0)));
    Refuse.with("a section twice", 6, 8 + TYPE.length, Write.module(TYPE, TYPE));
    Refuse.with("a section too late", 6, 8 + FUNCTION.length, Write.module(FUNCTION, TYPE));
    byte[] count = Write.section(12, Write.u(0));
    byte[] bodies = Write.rows(10);
    Refuse.not("12 ahead of 10", Write.module(Write.rows(9), count, bodies, Write.rows(11)));
    Refuse.with("12 behind 10", 6, 8 + bodies.length, Write.module(bodies, count));
    Refuse.with("9 behind 12", 6, 8 + count.length, Write.module(count, Write.rows(9)));
    Refuse.with("10 behind 11", 6, 8 + bodies.length, Write.module(Write.rows(11), bodies));
    Refuse.with("0 without a name", 1, 10, Write.module(raw(0, 0)));
  }

  private static void bytes() {
    Refuse.fromEnd("limits", 7, 2, Write.module(Write.rows(5, raw(2, 0))));
    Refuse.fromEnd("an import's kind", 7, 2, Write.module(Write.rows(2, Write.join("a", "b", 4, 0))));
    Refuse.fromEnd("a global's change", 7, 4, Write.module(Write.rows(6, raw(127, 2, 65, 0, 11))));
    Refuse.fromEnd("an export's kind", 7, 2, Write.module(Write.rows(7, Write.join("a", 4, 0))));
    Refuse.fromEnd("an element's m", 7, 1, Write.module(Write.rows(9, raw(8))));
    Refuse.fromEnd("an element's m, long", 7, 5, Write.module(Write.rows(9, raw(136, 128, 128, 128, 0))));
    Refuse.fromEnd("an element's kind", 7, 2, Write.module(Write.rows(9, raw(1, 1, 0))));
    Refuse.fromEnd("a data's m", 7, 1, Write.module(Write.rows(11, raw(3))));
    Refuse.fromEnd("63 with 1", 7, 3, code(63, 1, 26));
    Refuse.fromEnd("252 10 with 0 1", 7, 2, code(252, 10, 0, 1));
    Refuse.fromEnd("252 11 with 1", 7, 2, code(252, 11, 1));
  }

  private static void types() {
    Refuse.with("no 96", 8, 11, Write.module(Write.rows(1, raw(95, 0, 0))));
    Refuse.with("123", 8, 13, Write.module(Write.rows(1, raw(96, 1, 123, 0))));
    Refuse.fromEnd("a table of 127", 8, 3, Write.module(Write.rows(4, raw(127, 0, 0))));
    Refuse.fromEnd("a local of 64", 8, 2, Write.module(TYPE, FUNCTION, Write.rows(10, Write.sized(1, 1, 64, 11))));
    Refuse.fromEnd("208 of 127", 8, 3, code(208, 127, 26));
    Refuse.fromEnd("a block of 65", 8, 3, code(2, 65, 11));
    Refuse.fromEnd("28 of 0", 8, 2, code(28, 1, 0));
    Refuse.fromEnd("an element of 127", 8, 2, Write.module(Write.rows(9, raw(5, 127, 0))));
  }

  private static void name(int fault, int place, int... bytes) {
    Refuse.with("a name", fault, 11 + place, Write.module(Write.section(0, Write.name(raw(bytes)))));
  }

  private static void names() {
    name(0, 0, 0, 127, 194, 128, 223, 191, 224, 160, 128, 237, 159, 191);
    name(0, 0, 238, 128, 128, 239, 191, 191, 240, 144, 128, 128, 244, 143, 191, 191);
    name(9, 1, 97, 128);
    name(9, 0, 193, 191);
    name(9, 2, 97, 97, 224, 159, 191);
    name(9, 0, 237, 160, 128);
    name(9, 0, 237, 191, 191);
    name(9, 0, 240, 143, 191, 191);
    name(9, 0, 244, 144, 128, 128);
    name(9, 0, 248, 128, 128, 128);
    name(9, 0, 255);
    name(9, 1, 97, 194);
    name(9, 1, 97, 226, 130);
    name(9, 0, 194, 97);
    name(9, 0, 226, 130, 192);
  }

  private static void instructions() {
    Refuse.fromEnd("6", 10, 2, code(6));
    Refuse.fromEnd("29", 10, 2, code(29));
    Refuse.fromEnd("39", 10, 2, code(39));
    Refuse.fromEnd("197", 10, 2, code(197));
    Refuse.fromEnd("211", 10, 2, code(211));
    Refuse.fromEnd("252 18", 10, 3, code(252, 18));
    Refuse.fromEnd("a 5 in no block", 10, 2, code(5));
    Refuse.fromEnd("a 5 in a 2", 10, 3, code(2, 64, 5, 11));
    Refuse.fromEnd("a 5 in a 2 in a 4", 10, 4, code(65, 0, 4, 64, 2, 64, 5, 11, 11));
    Refuse.fromEnd("two 5", 10, 3, code(65, 0, 4, 64, 5, 5, 11));
    Refuse.fromEnd("252 8 without 12", 11, 5, code(252, 8, 0, 0));
    Refuse.fromEnd("252 9 without 12", 11, 4, code(252, 9, 0));
    byte[] global = Write.rows(6, Write.join(127, 0, 252, 9, 0, 11));
    Refuse.with("252 9 ahead of 12", 11, 13, Write.module(global, Write.section(12, 0)));
    Refuse.not("252 9 behind 12", Write.module(TYPE, FUNCTION, Write.section(12, 1),
        Write.rows(10, Write.body(252, 9, 0)), Write.rows(11, raw(1, 0))));
  }

  private static void counts() {
    byte[] many = Write.sized(2, raw(255, 255, 255, 255, 15), 127, 1, 126, 6);
    Refuse.with("too many locals", 12, 22, Write.module(TYPE, FUNCTION, Write.rows(10, many)));
    byte[] most = Write.sized(1, raw(255, 255, 255, 255, 15), 127, 11);
    Refuse.with("just as many", 40, 8 + TYPE.length + FUNCTION.length, Write.module(TYPE, FUNCTION, Write.rows(10, most)));
    Refuse.fromEnd("functions without bodies", 13, 0, Write.module(TYPE, FUNCTION));
    Refuse.fromEnd("bodies without functions", 13, 0, Write.module(Write.rows(10, Write.body())));
    Refuse.fromEnd("data without 11", 14, 0, Write.module(Write.section(12, 1)));
    Refuse.fromEnd("data other than 12", 14, 0, Write.module(Write.section(12, 2), Write.rows(11, raw(1, 0))));
    Refuse.fromEnd("13 ahead of 14", 13, 0, Write.module(TYPE, FUNCTION, Write.section(12, 1)));
  }
}
