/** Promises 3 and 4, Part II: the faults 20 to 28 and 40 of what stands around the bodies. */
final class CheckingTest {
  private static final byte[] TYPE = Write.rows(1, Write.type(Write.types()));
  private static final byte[] FUNCTION = Write.rows(3, Write.u(0));
  private static final byte[] BODY = Write.rows(10, Write.body());
  private static final byte[] MEMORY = Write.rows(5, Write.join(0, 1));
  private static final byte[] TABLE = Write.rows(4, Write.join(Write.FUNC, 0, 1));

  public static void main(String[] args) {
    limitsOfTheEngine();
    limitsOfBodies();
    typesAndLimits();
    exportsAndStart();
    globals();
    elements();
    data();
    order();
    Due.end();
  }

  private static byte[][] times(int n, byte[] item) {
    byte[][] out = new byte[n][];
    for (int i = 0; i < n; i++) out[i] = item;
    return out;
  }

  private static void each(String what, int section, byte[] item) {
    Refuse.with("64 " + what, 0, -1, Write.module(Write.rows(section, times(64, item))));
    Refuse.with("65 " + what, 40, 8, Write.module(Write.rows(section, times(65, item))));
  }

  private static void limitsOfTheEngine() {
    each("types", 1, Write.type(Write.types()));
    each("imports", 2, Write.join("a", "b", 3, 127, 0));
    each("tables", 4, Write.join(Write.EXT, 0, 0));
    each("globals", 6, Write.join(127, 0, 65, 0, 11));
    each("elements", 9, Write.join(1, 0, 0));
    each("data", 11, Write.join(1, 0));
    Refuse.with("65 memories", 40, 8, Write.module(Write.rows(5, times(65, Write.join(0, 0)))));
    byte[] functions = Write.rows(3, times(65, Write.u(0)));
    byte[] bodies = Write.rows(10, times(65, Write.body()));
    Refuse.with("65 functions", 40, 14, Write.module(TYPE, functions, bodies));
    byte[][] exports = new byte[65][];
    for (int i = 0; i < 65; i++) exports[i] = Write.export("e" + i, 0, 0);
    Refuse.with("65 exports", 40, 8, Write.module(Write.rows(7, exports)));
    int[] many = new int[17];
    java.util.Arrays.fill(many, Write.I64);
    int[] most = java.util.Arrays.copyOf(many, 16);
    Refuse.not("16 parameters and results", Write.module(Write.rows(1, Write.type(most, most))));
    Refuse.with("17 parameters", 40, 8, Write.module(Write.rows(1, Write.type(many))));
    Refuse.with("17 results", 40, 8, Write.module(Write.rows(1, Write.type(Write.types(), many))));
    byte[] custom = Write.section(0, "x");
    Refuse.with("the first section", 40, 8 + custom.length,
        Write.module(custom, Write.rows(1, Write.type(many)), Write.rows(11, times(65, Write.join(1, 0)))));
    Refuse.with("what 12 says", 14, 8 + 3, Write.module(Write.section(12, 65)));
  }

  private static byte[] bodyOf(byte[] body) {
    return Write.module(TYPE, FUNCTION, Write.rows(10, body));
  }

  private static void limitsOfBodies() {
    int place = 8 + TYPE.length + FUNCTION.length;
    Refuse.not("1000 locals", bodyOf(Write.bodyWith(1000, 127)));
    Refuse.with("1001 locals", 40, place, bodyOf(Write.bodyWith(1001, 127)));
    Refuse.with("1001 locals in two", 40, place, bodyOf(Write.sized(2, Write.u(1000), 127, 1, 126, 11)));
    byte[] labels = Write.row(times(201, Write.u(0)));
    byte[] fewer = Write.row(times(200, Write.u(0)));
    Refuse.not("200 labels in a row", bodyOf(Write.body(65, 0, 14, fewer, 0)));
    Refuse.with("201 labels in a row", 40, place, bodyOf(Write.body(65, 0, 14, labels, 0)));
    Refuse.with("28 of two", 40, place, bodyOf(Write.body(0, 28, 2, 127, 127, 26)));
    Refuse.with("28 of none", 40, place, bodyOf(Write.body(0, 28, 0, 26)));
    byte[] global = Write.rows(6, Write.join(127, 0, 28, 0, 65, 0, 11));
    Refuse.with("28 of none elsewhere", 26, 8 + 5, Write.module(global));
    byte[] table = Write.rows(6, Write.join(127, 0, 14, labels, 0, 11));
    Refuse.with("a row of labels elsewhere", 26, 8 + 6, Write.module(table));
    Refuse.with("40 ahead of 20", 40, 8 + 4, Write.module(FUNCTION, Write.rows(10, Write.bodyWith(1001, 127))));
  }

  private static void typesAndLimits() {
    byte[] importOf = Write.rows(2, Write.join("a", "b", 0, 1));
    Refuse.with("an import's type", 20, 8 + TYPE.length, Write.module(TYPE, importOf));
    Refuse.with("a function's type", 20, 8, Write.module(FUNCTION, BODY));
    byte[] functions = Write.rows(3, Write.u(0), Write.u(4294967295L));
    Refuse.with("a great type", 20, 14, Write.module(TYPE, functions, Write.rows(10, Write.body(), Write.body())));
    Refuse.with("imports first", 20, 14, Write.module(TYPE, importOf, Write.rows(3, Write.u(7)), BODY));
    byte[] badTable = Write.join(Write.FUNC, 1, 2, 1);
    byte[] badMemory = Write.join(1, 2, 1);
    Refuse.with("an import's limits", 21, 8, Write.module(Write.rows(2, Write.join("a", "b", 1, badTable)), MEMORY));
    Refuse.with("a table's limits", 21, 8, Write.module(Write.rows(4, badTable), Write.rows(5, badMemory)));
    Refuse.with("a memory's limits", 21, 8 + TABLE.length, Write.module(TABLE, Write.rows(5, badMemory)));
    Refuse.not("65536 pages", Write.module(Write.rows(5, Write.join(1, Write.u(65536), Write.u(65536)))));
    Refuse.with("65537 pages", 21, 8, Write.module(Write.rows(5, Write.join(0, Write.u(65537)))));
    Refuse.with("a greatest of 65537", 21, 8, Write.module(Write.rows(5, Write.join(1, 0, Write.u(65537)))));
    Refuse.not("a table of many", Write.module(Write.rows(4, Write.join(Write.EXT, 0, Write.u(4294967295L)))));
    byte[] imported = Write.rows(2, Write.join("a", "b", 2, 0, 0));
    Refuse.with("two memories", 22, 8, Write.module(Write.rows(5, Write.join(0, 0), Write.join(0, 0))));
    Refuse.with("two, one of them imported", 22, 8 + imported.length, Write.module(imported, MEMORY));
    byte[] both = Write.rows(2, Write.join("a", "b", 2, 0, 0), Write.join("a", "b", 2, 0, 0));
    Refuse.with("two imported", 22, 8, Write.module(both));
    Refuse.with("two imported, and an empty 5", 22, 8 + both.length, Write.module(both, Write.rows(5)));
    Refuse.with("20 ahead of 21", 20, 8, Write.module(FUNCTION, Write.rows(5, badMemory), BODY));
  }

  private static void exportsAndStart() {
    byte[] two = Write.rows(7, Write.export("a", 2, 0), Write.export("a", 2, 0));
    int place = 8 + MEMORY.length;
    Refuse.with("one name twice", 23, place, Write.module(MEMORY, two));
    Refuse.not("two names", Write.module(MEMORY, Write.rows(7, Write.export("a", 2, 0), Write.export("b", 2, 0))));
    for (int kind = 0; kind < 4; kind++) {
      int index = kind == 2 ? 1 : 0;
      Refuse.with("an export of kind " + kind, 24, place, Write.module(MEMORY, Write.rows(7, Write.export("a", kind, index))));
    }
    byte[] both = Write.rows(7, Write.export("a", 2, 0), Write.export("a", 2, 1));
    Refuse.with("24 ahead of 23", 24, place, Write.module(MEMORY, both));
    byte[] three = Write.rows(7, Write.export("a", 2, 0), Write.export("a", 2, 0), Write.export("b", 3, 0));
    Refuse.with("in order", 23, place, Write.module(MEMORY, three));
    byte[] start = Write.section(8, 0);
    byte[] other = Write.rows(1, Write.type(Write.types(), 127));
    byte[] third = Write.rows(1, Write.type(Write.types(127)));
    Refuse.not("a start", Write.module(TYPE, FUNCTION, start, BODY));
    Refuse.with("a start that is not there", 25, 8, Write.module(start));
    Refuse.with("a start with results", 25, 8 + other.length + 4,
        Write.module(other, FUNCTION, start, Write.rows(10, Write.body(65, 0))));
    Refuse.with("a start with parameters", 25, 8 + third.length + 4, Write.module(third, FUNCTION, start, BODY));
  }

  private static void global(String what, int fault, int back, Object... globalAndCode) {
    byte[] imports = Write.rows(2, Write.join("a", "b", 3, 127, 0), Write.join("a", "b", 3, 127, 1));
    byte[] module = Write.module(TYPE, imports, FUNCTION, Write.rows(6, Write.join(globalAndCode)), BODY);
    Refuse.with(what, fault, module.length - BODY.length - back, module);
  }

  private static void globals() {
    global("i32", 0, 0, 127, 0, 65, 5, 11);
    global("i64", 0, 0, 126, 1, 66, 5, 11);
    global("f32", 0, 0, 125, 1, 67, 1, 2, 3, 4, 11);
    global("f64", 0, 0, 124, 1, 68, 1, 2, 3, 4, 5, 6, 7, 8, 11);
    global("none", 0, 0, 111, 1, 208, 111, 11);
    global("a function", 0, 0, 112, 1, 210, 0, 11);
    global("an imported one", 0, 0, 127, 1, 35, 0, 11);
    global("one that changes", 26, 3, 127, 1, 35, 1, 11);
    global("its own", 26, 3, 127, 1, 35, 2, 11);
    global("one that there is not", 26, 3, 127, 1, 35, 9, 11);
    global("an operator", 26, 2, 127, 1, 65, 1, 65, 2, 106, 11);
    global("a block", 26, 4, 127, 1, 2, 64, 11, 11);
    global("no value", 27, 1, 127, 1, 11);
    global("two values", 27, 1, 127, 1, 65, 1, 65, 2, 11);
    global("another type", 27, 1, 127, 1, 66, 1, 11);
    global("a missing function", 28, 3, 112, 1, 210, 1, 11);
    global("26 ahead of 28", 26, 2, 112, 1, 210, 1, 26, 11);
    global("28 ahead of 27", 28, 3, 127, 1, 210, 1, 11);
    byte[] two = Write.rows(6, Write.join(127, 0, 65, 5, 11), Write.join(127, 0, 35, 0, 11));
    Refuse.with("an own one that was there before", 26, 8 + two.length - 3, Write.module(two));
  }

  private static void element(String what, int fault, int back, Object... element) {
    byte[] tables = Write.rows(4, Write.join(112, 0, 1), Write.join(111, 0, 1));
    byte[] elements = Write.rows(9, Write.join(element));
    byte[] module = Write.module(TYPE, FUNCTION, tables, elements, BODY);
    int place = back == 0 ? module.length - BODY.length - elements.length : module.length - BODY.length - back;
    Refuse.with(what, fault, place, module);
  }

  private static void elements() {
    element("0", 0, 0, 0, 65, 0, 11, 1, 0);
    element("1", 0, 0, 1, 0, 1, 0);
    element("2", 0, 0, 2, 0, 65, 0, 11, 0, 1, 0);
    element("3", 0, 0, 3, 0, 1, 0);
    element("4", 0, 0, 4, 65, 0, 11, 1, 210, 0, 11);
    element("5", 0, 0, 5, 111, 1, 208, 111, 11);
    element("6", 0, 0, 6, 1, 65, 0, 11, 111, 1, 208, 111, 11);
    element("7", 0, 0, 7, 112, 2, 210, 0, 11, 208, 112, 11);
    element("a missing function", 28, 0, 1, 0, 1, 1);
    element("a missing table", 28, 0, 2, 2, 65, 0, 11, 0, 0);
    element("a table of another type", 28, 0, 2, 1, 65, 0, 11, 0, 0);
    element("a passive one has no table", 0, 0, 5, 111, 0);
    element("another table of another type", 28, 0, 6, 0, 65, 0, 11, 111, 0);
    element("a place of i64", 27, 2, 0, 66, 0, 11, 0);
    element("a place that is not constant", 26, 3, 0, 1, 11, 0);
    element("28 ahead of its expressions", 28, 0, 2, 2, 1, 11, 0, 0);
    element("an item of another type", 27, 1, 5, 111, 1, 208, 112, 11);
    element("an item's missing function", 28, 3, 5, 112, 1, 210, 1, 11);
    element("the place first", 27, 5, 4, 66, 0, 11, 1, 210, 1, 11);
  }

  private static void data() {
    byte[] active = Write.rows(11, Write.join(0, 65, 0, 11, 1, 7));
    Refuse.not("an active one", Write.module(MEMORY, active));
    Refuse.with("no memory", 28, 8, Write.module(active));
    Refuse.not("a passive one", Write.module(Write.rows(11, Write.join(1, 1, 7))));
    byte[] second = Write.rows(11, Write.join(2, 1, 65, 0, 11, 1, 7));
    Refuse.with("another memory", 28, 8 + MEMORY.length, Write.module(MEMORY, second));
    Refuse.fromEnd("a place of f32", 27, 2, Write.module(MEMORY, Write.rows(11, Write.join(0, 67, 0, 0, 0, 0, 11, 0))));
    Refuse.fromEnd("a place that is none", 26, 4, Write.module(MEMORY, Write.rows(11, Write.join(0, 63, 0, 11, 0))));
  }

  private static void order() {
    byte[] badGlobal = Write.rows(6, Write.join(127, 0, 11));
    byte[] badElement = Write.rows(9, Write.join(1, 0, 1, 9));
    byte[] badData = Write.rows(11, Write.join(0, 65, 0, 11, 0));
    byte[] badBody = Write.rows(10, Write.body(26));
    Refuse.with("globals first", 27, 19, Write.module(TYPE, badGlobal, badElement, badData));
    Refuse.with("then elements", 28, 14, Write.module(TYPE, badElement, badData));
    Refuse.with("then data", 28, 14 + FUNCTION.length + badBody.length, Write.module(TYPE, FUNCTION, badBody, badData));
    Refuse.with("then bodies", 29, 14 + FUNCTION.length + 5, Write.module(TYPE, FUNCTION, badBody));
  }
}
