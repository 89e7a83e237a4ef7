import java.util.Arrays;

/**
 * An engine for modules of bytes: it reads and checks what comes on a tape, links modules to one
 * another and to HOST, and runs what they export, step by step.
 */
public final class ModuleEngine {
  private static final int TAPE = 40960;
  private static final int FED = 20;
  private static final int MODULES = 16;
  private static final int OFFERS = 64;
  private static final int ARGUMENTS = 16;
  private static final int MOST_STEPS = 100000;

  private static final int I32 = 127;
  private static final int F32 = 125;
  private static final int F64 = 124;
  private static final int FUNCTION = 112;
  private static final int OUTSIDE = 111;
  private static final long LOW32 = 4294967295L;

  // The ways in which a segment comes into the store.
  private static final int ACTIVE = 0;
  private static final int PASSIVE = 1;
  private static final int DECLARED = 2;

  private final byte[] tape = new byte[TAPE];
  private int taped;
  private int fed;
  private final Module[] modules = new Module[MODULES];
  private int moduleCount;
  private boolean wasRead;
  private int latestFault;
  private int latestPlace;
  private final Reader reader;
  private final Checker checker;
  private final Store store;
  private final Machine machine;
  private final int[] offers = new int[2 * OFFERS];
  private int offered;
  private final long[] arguments = new long[ARGUMENTS];
  private int argumentCount;

  public ModuleEngine() {
    // Rows of objects are filled with one that has nothing, so that none of them is ever null.
    Module none = new Module(new byte[0]);
    for (int i = 0; i < modules.length; i++) modules[i] = none;
    reader = new Reader(none);
    checker = new Checker(reader, none);
    store = new Store(reader, none);
    machine = new Machine(store);
  }

  public int feed(int a, int b, int c, int d, int e) {
    if (fed > TAPE - FED) return -1;
    write(a, taped);
    write(b, taped + 4);
    write(c, taped + 8);
    write(d, taped + 12);
    write(e, taped + 16);
    fed += FED;
    taped += FED;
    return taped;
  }

  private void write(int four, int at) {
    if (at < 0 || at > tape.length - 4) return;
    for (int i = 0; i < 4; i++) tape[at + i] = (byte) (four >>> 24 - 8 * i);
  }

  public int module(int n) {
    if (n < 0 || n > taped || n > TAPE || moduleCount >= modules.length) return -2;
    Module next = new Module(Arrays.copyOf(tape, n));
    taped = 0;
    wasRead = true;
    reader.begin(next);
    for (int i = 0; i < n && reader.goesOn(); i++) reader.advance();
    reader.finish();
    latestFault = reader.fault;
    latestPlace = reader.place;
    if (latestFault == 0) {
      checker.check(next, reader.limitAt);
      for (int i = 0; i < next.codes.length && checker.fault == 0; i++) checker.body(i);
      latestFault = checker.fault;
      latestPlace = checker.place;
    }
    if (latestFault != 0) return -1;
    latestPlace = -1;
    modules[moduleCount] = next;
    moduleCount++;
    return moduleCount - 1;
  }

  public int fault(int what) {
    if (!wasRead) return -1;
    return what == 0 ? latestFault : what == 1 ? latestPlace : -1;
  }

  public int offer(int instance, int k) {
    if (offered >= OFFERS) return -1;
    if (instance == -1) return k < 0 || k > 63 ? -1 : offerOf(Store.HOST, k);
    Instance home = store.instanceAt(instance);
    int kind = home.exportKind(k);
    return kind < 0 ? -1 : offerOf(kind, home.exportNumber(k));
  }

  private int offerOf(int kind, int number) {
    setItem(offers, 2 * offered, kind);
    setItem(offers, 2 * offered + 1, number);
    offered++;
    return offered;
  }

  public int make(int module) {
    if (module < 0 || module >= moduleCount || module >= modules.length) return -1;
    if (machine.isBusy()) return -10;
    Module plan = modules[module];
    int refusal = store.refusal(plan, offers, offered);
    int given = offered;
    offered = 0;
    if (refusal != 0) return refusal;
    Instance made = store.create(plan, offers, given);
    int trap = store.fillSegments(made);
    if (trap != 0) machine.failAtMaking(trap);
    else if (plan.start >= 0) machine.begin(item(made.functions, (int) plan.start), arguments, 0);
    return store.instanceCount - 1;
  }

  public int argument(long bits) {
    if (argumentCount >= arguments.length) return -1;
    arguments[argumentCount] = bits;
    argumentCount++;
    return argumentCount;
  }

  public boolean call(int instance, int k) {
    Instance home = store.instanceAt(instance);
    if (machine.isBusy() || home.exportKind(k) != 0) return false;
    int function = home.exportNumber(k);
    int[] shape = store.shapeOf(function);
    if (!argumentsAre(shape, 2, item(shape, 0))) return false;
    machine.begin(function, arguments, argumentCount);
    argumentCount = 0;
    return true;
  }

  public int run(int n) {
    if (n < 0 || n > MOST_STEPS) return -1;
    return machine.advance(n);
  }

  public boolean give() {
    if (!machine.isBusy()) return false;
    machine.stop(Machine.GIVEN_UP);
    return true;
  }

  public boolean answer() {
    if (machine.state != Machine.ASKS) return false;
    int[] shape = store.shapeOf(machine.asked);
    if (!argumentsAre(shape, 2 + item(shape, 0), item(shape, 1))) return false;
    machine.goOn(arguments, argumentCount);
    argumentCount = 0;
    return true;
  }

  /** Whether the arguments that are there can be the types that stand in a shape from a place on. */
  private boolean argumentsAre(int[] shape, int from, int count) {
    if (argumentCount != count || count > arguments.length) return false;
    for (int i = 0; i < count; i++) {
      int type = item(shape, from + i);
      long most = type == FUNCTION ? store.functionCount - 1 : Integer.MAX_VALUE;
      boolean isReference = type == FUNCTION || type == OUTSIDE;
      if (isReference && (arguments[i] < -1 || arguments[i] > most)) return false;
    }
    return true;
  }

  public int state(int what) {
    switch (what) {
      case 0: return machine.state;
      case 1: return machine.trap;
      case 2: return machine.steps;
      case 3: return machine.depth;
      case 4: return machine.state == Machine.ASKS ? store.hostNumber(machine.asked) : -1;
      case 5: return moduleCount;
      case 6: return store.instanceCount;
      case 7: return store.functionCount;
      case 8: return store.memories.left;
      case 9: return store.tables.left;
      case 10: return taped;
      case 11: return store.changedCount;
      // The checker lets no body through that could make this one anything else.
      case 12: return 0;
      default: return -1;
    }
  }

  public long value(int k) {
    boolean tells = machine.state == Machine.ENDED || machine.state == Machine.ASKS;
    return tells && k >= 0 && k < machine.toldCount ? item(machine.told, k) : 0;
  }

  public int tier(int n) {
    if (n < 0) return -1;
    int before = machine.tier;
    machine.tier = n;
    return before;
  }

  public int export(int instance, int k, int what) {
    Instance home = store.instanceAt(instance);
    int kind = home.exportKind(k);
    int number = home.exportNumber(k);
    if (kind < 0) return -1;
    switch (what) {
      case 0: return kind;
      case 1: return number;
      case 2: return kind == 0 ? item(store.shapeOf(number), 0) : -1;
      case 3: return kind == 0 ? item(store.shapeOf(number), 1) : -1;
      case 4: return kind == 1 ? item(store.tables.sizes, number)
          : kind == 2 ? item(store.memories.sizes, number) : -1;
      case 5: return kind == 3 ? item(store.globalTypes, number) : -1;
      default: return -1;
    }
  }

  public int memory(int instance, int k, int address) {
    Instance home = store.instanceAt(instance);
    int number = home.exportNumber(k);
    long at = address & LOW32;
    if (home.exportKind(k) != 2 || !store.memories.reaches(number, at, 1)) return -1;
    return store.memories.byteAt(number, at);
  }

  public boolean poke(int instance, int k, int address, int v) {
    Instance home = store.instanceAt(instance);
    int number = home.exportNumber(k);
    long at = address & LOW32;
    if (machine.isBusy() || home.exportKind(k) != 2 || !store.memories.reaches(number, at, 1)) return false;
    store.memories.setByte(number, at, v);
    return true;
  }

  public int table(int instance, int k, int index) {
    Instance home = store.instanceAt(instance);
    int number = home.exportNumber(k);
    if (home.exportKind(k) != 1 || !store.tables.reaches(number, index, 1)) return -2;
    return store.tables.entry(number, index);
  }

  public long global(int instance, int k) {
    Instance home = store.instanceAt(instance);
    return home.exportKind(k) == 3 ? item(store.globalBits, home.exportNumber(k)) : 0;
  }

  // Rows are read and written through these, so that no index is used that was not looked at.

  private static int item(int[] row, int i) {
    return i >= 0 && i < row.length ? row[i] : 0;
  }

  private static long item(long[] row, int i) {
    return i >= 0 && i < row.length ? row[i] : 0;
  }

  private static void setItem(int[] row, int i, int v) {
    if (i >= 0 && i < row.length) row[i] = v;
  }

  private static void setItem(long[] row, int i, long v) {
    if (i >= 0 && i < row.length) row[i] = v;
  }

  private static void move(long[] row, int from, int to, int count) {
    if (count <= 0 || from < 0 || to < 0 || from > row.length - count || to > row.length - count) return;
    System.arraycopy(row, from, row, to, count);
  }

  /** What is asked by an index of 32 bits without sign, as an int that is beyond all rows if need be. */
  private static int index(long unsigned) {
    return unsigned < 0 || unsigned > Integer.MAX_VALUE ? Integer.MAX_VALUE : (int) unsigned;
  }

  /** A module as it was read: where its parts stand in its bytes, and what they are. */
  private static final class Module {
    // What a function, table, memory or global is: six numbers each.
    static final int ENTRY = 6;
    static final int KIND = 0;
    static final int TYPE = 1;
    static final int CHANGES = 2;
    static final int LEAST = 3;
    static final int GREATEST = 4;
    static final int EXPRESSION = 5;

    static final int EXPORT = 4;
    static final int NAME_AT = 0;
    static final int NAME_LENGTH = 1;
    static final int EXPORT_KIND = 2;
    static final int EXPORT_INDEX = 3;

    // Elements and data: seven numbers each; SPACE is the table or the memory.
    static final int SEGMENT = 7;
    static final int MODE = 0;
    static final int SPACE = 1;
    static final int PLACE_AT = 2;
    static final int ITEMS_AT = 3;
    static final int COUNT = 4;
    static final int ITEM_TYPE = 5;
    static final int BY_EXPRESSIONS = 6;

    final byte[] bytes;
    final int[] sections = new int[13];
    int[][] types = new int[0][0];
    long[] imports = new long[0];
    long[] functions = new long[0];
    long[] tables = new long[0];
    long[] memories = new long[0];
    long[] globals = new long[0];
    int[] exports = new int[0];
    int[] elements = new int[0];
    int[] data = new int[0];
    int[] bodies = new int[0];
    Body[] codes = new Body[0];
    long start = -1;
    long dataCount = -1;

    Module(byte[] bytes) {
      this.bytes = bytes;
      for (int i = 0; i < sections.length; i++) sections[i] = -1;
    }

    long[] space(int kind) {
      return kind == 0 ? functions : kind == 1 ? tables : kind == 2 ? memories : globals;
    }

    void setSpace(int kind, long[] space) {
      if (kind == 0) functions = space;
      else if (kind == 1) tables = space;
      else if (kind == 2) memories = space;
      else globals = space;
    }

    int count(int kind) {
      return space(kind).length / ENTRY;
    }

    boolean has(int kind, long i) {
      return i >= 0 && i < count(kind);
    }

    long of(int kind, int i, int what) {
      return item(space(kind), i * ENTRY + what);
    }

    int imported(int kind) {
      int count = 0;
      for (int i = 0; i < imports.length; i += ENTRY) {
        if (imports[i] == kind) count++;
      }
      return count;
    }

    /** What is imported comes ahead of a module's own things in each of the four spaces. */
    void shareImports() {
      for (int kind = 0; kind < 4; kind++) {
        long[] space = new long[imported(kind) * ENTRY];
        int filled = 0;
        for (int i = 0; i + ENTRY <= imports.length && filled + ENTRY <= space.length; i += ENTRY) {
          if (imports[i] != kind) continue;
          System.arraycopy(imports, i, space, filled, ENTRY);
          filled += ENTRY;
        }
        setSpace(kind, space);
      }
    }

    int[] shape(int type) {
      return type >= 0 && type < types.length ? types[type] : new int[2];
    }

    int[] shapeOfFunction(int i) {
      return shape((int) of(0, i, TYPE));
    }
  }

  /**
   * What a function of a module runs. A shape, here and elsewhere, is a function type: how many
   * parameters, how many results, then the types of these and of those.
   */
  private static final class Body {
    static final int ROW = 5;
    static final int OP = 0;
    static final int A = 1;
    static final int B = 2;
    static final int C = 3;
    static final int HEIGHT = 4;

    final int[] shape;
    final int[] code;
    int rows;
    int slots;
    int operands;
    int[] references = new int[0];
    boolean isCompiled;
    int[] registers = new int[0];
    long[] constants = new long[0];

    Body(int[] shape, int mostRows) {
      this.shape = shape;
      code = new int[ROW * Math.max(0, mostRows)];
    }

    int emit(int op, int a, int b, int c, int height) {
      int at = rows * ROW;
      if (at < 0 || at > code.length - ROW) return rows;
      code[at + OP] = op;
      code[at + A] = a;
      code[at + B] = b;
      code[at + C] = c;
      code[at + HEIGHT] = height;
      rows++;
      return rows - 1;
    }

    int of(int row, int what) {
      int at = row * ROW + what;
      return at >= 0 && at < code.length ? code[at] : 0;
    }

    void aim(int row, int target) {
      setItem(code, row * ROW + A, target);
    }
  }

  /** Part I: reads bytes as a module, up to the first that is not as it must be. */
  private static final class Reader {
    // Kinds of numbers: how many bits, below 0 those with sign.
    static final int U32 = 32;
    static final int S32 = -32;
    static final int S33 = -33;
    static final int S64 = -64;

    // 252 and its k are one instruction; 0 .. 7 are operators of Part III with numbers of their own.
    static final int FIRST_LONG = 300;
    static final int FIRST_SATURATING = 200;

    private static final int[] BEGINNING = {0, 97, 115, 109, 1, 0, 0, 0};
    private static final int KEPT = 64;
    private static final int MOST_TYPES = 16;
    private static final int MOST_LOCALS = 1000;
    private static final int MOST_LABELS = 200;

    Module module;
    int at;
    int end;
    int fault;
    int place;
    int limitAt;
    int op;
    int opAt;
    long first;
    long second;
    private int section;
    private int sectionAt;
    private int latestRank;
    private int ownBefore;
    private long rows;
    private int row;
    private boolean isInBody;
    // A block has at least two bytes, so no more can stand open.
    private final boolean[] mayHaveElse = new boolean[TAPE / 2 + 1];
    private final int[] shape = new int[2 + 2 * MOST_TYPES];

    Reader(Module none) {
      module = none;
    }

    void begin(Module next) {
      open(next, 0);
      limitAt = -1;
      latestRank = 0;
      section = -1;
      for (int i = 0; i < BEGINNING.length && fault == 0; i++) {
        if (next() != BEGINNING[i]) fail(5, i);
      }
    }

    /** Goes to a place of a module, to read there what has been read before. */
    void open(Module other, int from) {
      module = other;
      at = from;
      end = other.bytes.length;
      fault = 0;
      place = -1;
      isInBody = false;
    }

    boolean goesOn() {
      return fault == 0 && (section >= 0 || at < end);
    }

    void finish() {
      int own = module.count(0) - module.imported(0);
      if (own != module.bodies.length / 2) fail(13, end);
      if (module.dataCount >= 0 && module.dataCount != module.data.length / Module.SEGMENT) fail(14, end);
    }

    private void fail(int what, int where) {
      if (fault != 0) return;
      fault = what;
      place = where;
    }

    private void exceedLimit() {
      if (limitAt < 0) limitAt = sectionAt;
    }

    int next() {
      if (fault != 0) return 0;
      if (at < 0 || at >= end || at >= module.bytes.length) {
        fault = 1;
        place = end;
        return 0;
      }
      at++;
      return module.bytes[at - 1] & 255;
    }

    long number(int kind) {
      int bits = Math.abs(kind);
      long sum = 0;
      for (int shift = 0; shift < bits && fault == 0; shift += 7) {
        int from = at;
        int b = next();
        if (fault != 0) return 0;
        if (shift + 7 >= bits && !endsNumber(b, bits - shift, kind < 0)) {
          fail(4, from);
          return 0;
        }
        sum |= (long) (b & 127) << shift;
        if (b < 128) return kind < 0 && (b & 64) != 0 && shift < 57 ? sum | -1L << shift + 7 : sum;
      }
      return 0;
    }

    /** Whether a byte may be the last possible one of a number that has so many bits left. */
    private static boolean endsNumber(int b, int left, boolean hasSign) {
      if (b > 127) return false;
      if (!hasSign) return b >>> left == 0;
      int high = b >>> left - 1;
      return high == 0 || high == 127 >>> left - 1;
    }

    private static boolean isReference(int type) {
      return type == FUNCTION || type == OUTSIDE;
    }

    private static boolean isValue(int type) {
      return type >= F64 && type <= I32 || type == FUNCTION || type == OUTSIDE;
    }

    private int valueType() {
      int type = next();
      if (!isValue(type)) fail(8, at - 1);
      return type;
    }

    private int referenceType() {
      int type = next();
      if (!isReference(type)) fail(8, at - 1);
      return type;
    }

    private int nextUpTo(int most) {
      int b = next();
      if (b > most) fail(7, at - 1);
      return b;
    }

    private void skip(long count) {
      if (fault == 0 && count > end - at) fail(1, end);
      if (fault == 0) at += (int) count;
    }

    /** Reads the head of a section, or a row of the one that stands open, and closes it behind its last. */
    void advance() {
      if (section < 0) {
        openSection();
      } else {
        switch (section) {
          case 1: functionType(); break;
          case 2: importOne(); break;
          case 7: exportOne(); break;
          case 9: element(); break;
          case 10: body(); break;
          case 11: dataOne(); break;
          default: own(section - 3);
        }
        row++;
      }
      if (section >= 0 && row >= rows) closeSection();
    }

    private static int rank(int id) {
      return id < 10 ? id : id == 12 ? 10 : id + 1;
    }

    private void openSection() {
      int idAt = at;
      int id = next();
      if (id > 12 || id > 0 && rank(id) <= latestRank) fail(6, idAt);
      int sizeAt = at;
      long size = number(U32);
      if (size > end - at) fail(2, sizeAt);
      if (fault != 0) return;
      if (id > 0) latestRank = rank(id);
      end = at + (int) size;
      section = id;
      sectionAt = idAt;
      setItem(module.sections, id, idAt);
      row = 0;
      rows = 0;
      if (id == 0) {
        name();
        skip(end - at);
        return;
      }
      long count = number(U32);
      if (id == 8) module.start = count;
      else if (id == 12) module.dataCount = count;
      else makeRoom(id, count);
    }

    private void closeSection() {
      if (at < end) fail(3, at);
      if (section == 2) module.shareImports();
      section = -1;
      end = module.bytes.length;
    }

    private void makeRoom(int id, long count) {
      rows = count;
      if (count > KEPT) exceedLimit();
      // Each row has at least one byte: a count beyond that is a fault to come.
      int kept = (int) Math.max(0, Math.min(count, end - at));
      if (id >= 3 && id <= 6) {
        ownBefore = module.count(id - 3);
        module.setSpace(id - 3, Arrays.copyOf(module.space(id - 3), (ownBefore + kept) * Module.ENTRY));
      }
      if (id == 1) module.types = new int[kept][0];
      if (id == 2) module.imports = new long[kept * Module.ENTRY];
      if (id == 7) module.exports = new int[kept * Module.EXPORT];
      if (id == 9) module.elements = new int[kept * Module.SEGMENT];
      if (id == 10) module.bodies = new int[kept * 2];
      if (id == 11) module.data = new int[kept * Module.SEGMENT];
    }

    private void functionType() {
      if (next() != 96) fail(8, at - 1);
      int filled = 2;
      for (int half = 0; half < 2; half++) {
        long count = number(U32);
        if (count > MOST_TYPES) exceedLimit();
        for (long i = 0; i < count && fault == 0; i++) {
          int type = valueType();
          setItem(shape, filled, type);
          filled = Math.min(filled + 1, shape.length);
        }
        shape[half] = (int) Math.min(count, MOST_TYPES);
      }
      if (row >= 0 && row < module.types.length) module.types[row] = Arrays.copyOf(shape, filled);
    }

    private void importOne() {
      name();
      name();
      int kind = nextUpTo(3);
      describe(module.imports, row * Module.ENTRY, kind);
    }

    private void own(int kind) {
      int entry = (ownBefore + row) * Module.ENTRY;
      describe(module.space(kind), entry, kind);
      if (kind != 3) return;
      setItem(module.globals, entry + Module.EXPRESSION, at);
      expression();
    }

    private void describe(long[] space, int entry, int kind) {
      setItem(space, entry + Module.KIND, kind);
      setItem(space, entry + Module.GREATEST, -1);
      if (kind == 0) setItem(space, entry + Module.TYPE, number(U32));
      if (kind == 1) setItem(space, entry + Module.TYPE, referenceType());
      if (kind == 1 || kind == 2) {
        int hasGreatest = nextUpTo(1);
        setItem(space, entry + Module.LEAST, number(U32));
        if (hasGreatest == 1) setItem(space, entry + Module.GREATEST, number(U32));
      }
      if (kind == 3) {
        setItem(space, entry + Module.TYPE, valueType());
        setItem(space, entry + Module.CHANGES, nextUpTo(1));
      }
    }

    private void exportOne() {
      int entry = row * Module.EXPORT;
      int length = name();
      setItem(module.exports, entry + Module.NAME_AT, at - length);
      setItem(module.exports, entry + Module.NAME_LENGTH, length);
      setItem(module.exports, entry + Module.EXPORT_KIND, nextUpTo(3));
      setItem(module.exports, entry + Module.EXPORT_INDEX, index(number(U32)));
    }

    private void element() {
      int entry = row * Module.SEGMENT;
      int from = at;
      long m = number(U32);
      if (m > 7) fail(7, from);
      boolean isActive = (m & 1) == 0;
      boolean byExpressions = (m & 4) != 0;
      setItem(module.elements, entry + Module.MODE, isActive ? ACTIVE : (m & 2) != 0 ? DECLARED : PASSIVE);
      if (isActive && (m & 2) != 0) setItem(module.elements, entry + Module.SPACE, index(number(U32)));
      setItem(module.elements, entry + Module.PLACE_AT, at);
      if (isActive) expression();
      int type = FUNCTION;
      if (m != 0 && m != 4) {
        if (byExpressions) type = referenceType();
        else nextUpTo(0);
      }
      long count = number(U32);
      setItem(module.elements, entry + Module.ITEMS_AT, at);
      setItem(module.elements, entry + Module.COUNT, index(count));
      setItem(module.elements, entry + Module.ITEM_TYPE, type);
      setItem(module.elements, entry + Module.BY_EXPRESSIONS, byExpressions ? 1 : 0);
      for (long i = 0; i < count && fault == 0; i++) {
        if (byExpressions) expression();
        else number(U32);
      }
    }

    private void dataOne() {
      int entry = row * Module.SEGMENT;
      int from = at;
      long m = number(U32);
      if (m > 2) fail(7, from);
      setItem(module.data, entry + Module.MODE, m == 1 ? PASSIVE : ACTIVE);
      if (m == 2) setItem(module.data, entry + Module.SPACE, index(number(U32)));
      setItem(module.data, entry + Module.PLACE_AT, at);
      if (m != 1) expression();
      long count = number(U32);
      setItem(module.data, entry + Module.ITEMS_AT, at);
      setItem(module.data, entry + Module.COUNT, index(count));
      skip(count);
    }

    private void body() {
      int sizeAt = at;
      long size = number(U32);
      if (size > end - at) fail(2, sizeAt);
      if (fault != 0) return;
      int outer = end;
      int from = at;
      end = at + (int) size;
      setItem(module.bodies, 2 * row, from);
      setItem(module.bodies, 2 * row + 1, end);
      long count = number(U32);
      long locals = 0;
      for (long i = 0; i < count && fault == 0; i++) {
        locals += number(U32);
        valueType();
      }
      if (locals > LOW32) fail(12, from);
      if (locals > MOST_LOCALS) exceedLimit();
      isInBody = true;
      expression();
      isInBody = false;
      if (at < end) fail(3, at);
      end = outer;
    }

    /** A name's length in bytes; it is read whole before its characters are looked at. */
    private int name() {
      long count = number(U32);
      int from = at;
      skip(count);
      while (from < at && fault == 0) {
        int length = characterLength(from);
        if (length == 0) fail(9, from);
        from += Math.max(1, length);
      }
      return fault == 0 ? (int) count : 0;
    }

    /** How many bytes the character has that begins at a place ahead of at; 0 when it is none. */
    private int characterLength(int from) {
      if (from < 0 || at > module.bytes.length || from >= at) return 0;
      int lead = module.bytes[from] & 255;
      if (lead < 128) return 1;
      int more = lead < 192 ? 0 : lead < 224 ? 1 : lead < 240 ? 2 : lead < 248 ? 3 : 0;
      if (more == 0 || more >= at - from) return 0;
      int character = lead & 63 >> more;
      for (int i = 1; i <= more; i++) {
        int b = module.bytes[from + i] & 255;
        if (b >>> 6 != 2) return 0;
        character = character << 6 | b & 63;
      }
      int least = more == 1 ? 128 : more == 2 ? 2048 : 65536;
      boolean isSurrogate = character >= 55296 && character <= 57343;
      return character < least || character > 1114111 || isSurrogate ? 0 : more + 1;
    }

    private void expression() {
      int depth = 0;
      mayHaveElse[0] = false;
      for (int i = 0; i <= module.bytes.length && depth >= 0 && fault == 0; i++) {
        instruction();
        if (op == 11) depth--;
        if (op == 5 && depth >= 0 && depth < mayHaveElse.length) {
          if (!mayHaveElse[depth]) fail(10, opAt);
          mayHaveElse[depth] = false;
        }
        if (op >= 2 && op <= 4 && fault == 0) {
          depth++;
          if (depth < mayHaveElse.length) mayHaveElse[depth] = op == 4;
        }
      }
    }

    /** Reads one instruction: its number, and of what stands behind it what the later parts need. */
    void instruction() {
      opAt = at;
      op = next();
      first = 0;
      second = 0;
      if (op >= 69 && op <= 196) return;
      if (op >= 40 && op <= 62 || op == 17) {
        first = number(U32);
        second = number(U32);
        return;
      }
      if (op >= 32 && op <= 38) {
        first = number(U32);
        return;
      }
      switch (op) {
        case 0: case 1: case 5: case 11: case 15: case 26: case 27: case 209: break;
        case 2: case 3: case 4: first = blockType(); break;
        case 12: case 13: case 16: case 210: first = number(U32); break;
        case 14: labels(); break;
        case 28: selected(); break;
        case 63: case 64: nextUpTo(0); break;
        case 65: first = number(S32) & LOW32; break;
        case 66: first = number(S64); break;
        case 67: first = lowestFirst(4); break;
        case 68: first = lowestFirst(8); break;
        case 208: first = referenceType(); break;
        case 252: longInstruction(); break;
        default: fail(10, opAt);
      }
    }

    /** A function type's number; or below 0: 64 and the value types as the S33 that their byte is. */
    private long blockType() {
      int from = at;
      long type = number(S33);
      boolean isByte = at - from == 1 && (type == -64 || isValue((int) type + 128));
      if (type < 0 && !isByte) fail(8, from);
      return type;
    }

    private void labels() {
      first = number(U32);
      second = at;
      if (isInBody && first > MOST_LABELS) exceedLimit();
      for (long i = 0; i <= first && fault == 0; i++) number(U32);
    }

    private void selected() {
      first = number(U32);
      if (isInBody && first != 1) exceedLimit();
      for (long i = 0; i < first && fault == 0; i++) second = valueType();
    }

    private long lowestFirst(int count) {
      long sum = 0;
      for (int i = 0; i < count; i++) sum |= (long) next() << 8 * i;
      return sum;
    }

    private void longInstruction() {
      long k = number(U32);
      if (k > 17) fail(10, opAt);
      if ((k == 8 || k == 9) && module.dataCount < 0) fail(11, opAt);
      if (fault != 0) return;
      op = (int) k + (k < 8 ? FIRST_SATURATING : FIRST_LONG);
      if (k >= 8 && k != 10 && k != 11) first = number(U32);
      if (k == 12 || k == 14) second = number(U32);
      if (k == 8 || k == 10 || k == 11) nextUpTo(0);
      if (k == 10) nextUpTo(0);
    }
  }

  /** Part II: checks a module that was read by its types, and flattens its bodies as it goes. */
  private static final class Checker {
    private static final int MOST_LABELS = 200;
    private static final int MOST_OPERANDS = 1000;
    private static final int MOST_PAGES = 65536;
    private static final int UNKNOWN = 0;

    // A label: seven numbers.
    private static final int LABEL = 7;
    private static final int BEGUN_BY = 0;
    private static final int BLOCK_TYPE = 1;
    private static final int LABEL_HEIGHT = 2;
    private static final int DEAD = 3;
    private static final int IS_EMITTED = 4;
    private static final int CHAIN = 5;
    private static final int START = 6;

    int fault;
    int place;
    private Module module;
    private final Reader in;
    private boolean[] isDeclared = new boolean[0];
    private final int[] row = new int[MOST_OPERANDS];
    private int size;
    private int sizeBefore;
    private int most;
    private final int[] labels = new int[MOST_LABELS * LABEL];
    private int labelCount;
    private final int[] locals = new int[1016];
    private int localCount;
    private final int[] runs = new int[2000];
    private int runCount;
    private final int[] taken = new int[16];
    private final int[][] simpleShapes = new int[128][0];
    private Body body;

    Checker(Reader reader, Module none) {
      in = reader;
      module = none;
      body = new Body(new int[2], 0);
      simpleShapes[64] = new int[2];
      for (int type = OUTSIDE; type <= I32; type++) simpleShapes[type] = new int[] {0, 1, type};
    }

    void check(Module next, int limitAt) {
      module = next;
      fault = 0;
      place = -1;
      isDeclared = new boolean[next.count(0)];
      if (limitAt >= 0) failAt(40, limitAt);
      if (fault == 0) typesAreThere();
      if (fault == 0) limitsAreRight();
      if (fault == 0) memoryIsOne();
      if (fault == 0) exportsAreRight();
      if (fault == 0) startIsRight();
      if (fault == 0) globalsAreRight();
      if (fault == 0) elementsAreRight();
      if (fault == 0) dataAreRight();
      if (fault == 0) makeBodies();
    }

    private void failAt(int what, int where) {
      if (fault != 0) return;
      fault = what;
      place = where;
    }

    private void fail(int what) {
      if (fault != 0) return;
      fault = what;
      place = in.opAt;
    }

    private void failSection(int what, int id) {
      failAt(what, item(module.sections, id));
    }

    private void typesAreThere() {
      int imported = 0;
      for (int i = 0; i < module.imports.length; i += Module.ENTRY) {
        if (item(module.imports, i + Module.KIND) != 0) continue;
        imported++;
        if (item(module.imports, i + Module.TYPE) >= module.types.length) failSection(20, 2);
      }
      for (int i = imported; i < module.count(0); i++) {
        if (module.of(0, i, Module.TYPE) >= module.types.length) failSection(20, 3);
      }
    }

    private void limitsAreRight() {
      for (int i = 0; i < module.imports.length; i += Module.ENTRY) {
        if (!isLimited(module.imports, i)) failSection(21, 2);
      }
      for (int i = module.imported(1); i < module.count(1); i++) {
        if (!isLimited(module.tables, i * Module.ENTRY)) failSection(21, 4);
      }
      for (int i = module.imported(2); i < module.count(2); i++) {
        if (!isLimited(module.memories, i * Module.ENTRY)) failSection(21, 5);
      }
    }

    private static boolean isLimited(long[] space, int entry) {
      long least = item(space, entry + Module.LEAST);
      long greatest = item(space, entry + Module.GREATEST);
      boolean isMemory = item(space, entry + Module.KIND) == 2;
      if (isMemory && (least > MOST_PAGES || greatest > MOST_PAGES)) return false;
      return greatest < 0 || least <= greatest;
    }

    private void memoryIsOne() {
      if (module.count(2) <= 1) return;
      failSection(22, item(module.sections, 5) >= 0 ? 5 : 2);
    }

    private void exportsAreRight() {
      for (int i = 0; i < module.exports.length; i += Module.EXPORT) {
        int kind = item(module.exports, i + Module.EXPORT_KIND);
        int index = item(module.exports, i + Module.EXPORT_INDEX);
        if (!module.has(kind, index)) failSection(24, 7);
        if (kind == 0) declare(index);
        for (int j = 0; j < i; j += Module.EXPORT) {
          if (isSameName(i, j)) failSection(23, 7);
        }
      }
    }

    private boolean isSameName(int i, int j) {
      int length = item(module.exports, i + Module.NAME_LENGTH);
      if (length != item(module.exports, j + Module.NAME_LENGTH)) return false;
      int x = item(module.exports, i + Module.NAME_AT);
      int y = item(module.exports, j + Module.NAME_AT);
      int bytes = module.bytes.length;
      if (x < 0 || y < 0 || x > bytes - length || y > bytes - length) return false;
      for (int k = 0; k < length; k++) {
        if (module.bytes[x + k] != module.bytes[y + k]) return false;
      }
      return true;
    }

    private void startIsRight() {
      if (item(module.sections, 8) < 0) return;
      if (!module.has(0, module.start)) {
        failSection(25, 8);
        return;
      }
      int[] shape = module.shapeOfFunction((int) module.start);
      if (item(shape, 0) != 0 || item(shape, 1) != 0) failSection(25, 8);
    }

    private void declare(long function) {
      if (function >= 0 && function < isDeclared.length) isDeclared[(int) function] = true;
    }

    private void globalsAreRight() {
      for (int i = module.imported(3); i < module.count(3) && fault == 0; i++) {
        in.open(module, (int) module.of(3, i, Module.EXPRESSION));
        constant((int) module.of(3, i, Module.TYPE));
      }
    }

    private void elementsAreRight() {
      for (int i = 0; i < module.elements.length && fault == 0; i += Module.SEGMENT) {
        int count = item(module.elements, i + Module.COUNT);
        int type = item(module.elements, i + Module.ITEM_TYPE);
        int table = item(module.elements, i + Module.SPACE);
        boolean byExpressions = item(module.elements, i + Module.BY_EXPRESSIONS) != 0;
        boolean isActive = item(module.elements, i + Module.MODE) == ACTIVE;
        in.open(module, item(module.elements, i + Module.ITEMS_AT));
        for (int j = 0; j < count && !byExpressions; j++) {
          long function = in.number(Reader.U32);
          if (!module.has(0, function)) failSection(28, 9);
          declare(function);
        }
        if (isActive && (!module.has(1, table) || module.of(1, table, Module.TYPE) != type)) failSection(28, 9);
        in.open(module, item(module.elements, i + Module.PLACE_AT));
        if (isActive) constant(I32);
        in.open(module, item(module.elements, i + Module.ITEMS_AT));
        for (int j = 0; j < count && byExpressions && fault == 0; j++) constant(type);
      }
    }

    private void dataAreRight() {
      for (int i = 0; i < module.data.length && fault == 0; i += Module.SEGMENT) {
        if (item(module.data, i + Module.MODE) != ACTIVE) continue;
        if (!module.has(2, item(module.data, i + Module.SPACE))) failSection(28, 11);
        in.open(module, item(module.data, i + Module.PLACE_AT));
        constant(I32);
      }
    }

    /** Checks the expression at which the reader stands, and leaves the reader behind it. */
    private void constant(int wanted) {
      int values = 0;
      int type = 0;
      int missingAt = -1;
      for (int i = 0; i <= module.bytes.length && fault == 0; i++) {
        in.instruction();
        if (in.op == 11) break;
        type = constantType();
        if (type == 0) fail(26);
        if (in.op == 210 && !module.has(0, in.first) && missingAt < 0) missingAt = in.opAt;
        if (in.op == 210) declare(in.first);
        values++;
      }
      if (missingAt >= 0) failAt(28, missingAt);
      if (values != 1 || type != wanted) fail(27);
    }

    /** The type of what a constant instruction gives; 0 for one that is not constant. */
    private int constantType() {
      int op = in.op;
      if (op >= 65 && op <= 68) return I32 - (op - 65);
      if (op == 208) return (int) in.first;
      if (op == 210) return FUNCTION;
      if (op != 35 || in.first >= module.imported(3)) return 0;
      int i = (int) in.first;
      return module.of(3, i, Module.CHANGES) == 0 ? (int) module.of(3, i, Module.TYPE) : 0;
    }

    private void makeBodies() {
      int imported = module.imported(0);
      module.codes = new Body[module.bodies.length / 2];
      for (int i = 0; i < module.codes.length; i++) {
        int bytes = item(module.bodies, 2 * i + 1) - item(module.bodies, 2 * i);
        module.codes[i] = new Body(module.shapeOfFunction(imported + i), bytes);
      }
    }

    /** Checks the i-th body, and gives it its code. */
    void body(int i) {
      if (i < 0 || i >= module.codes.length) return;
      body = module.codes[i];
      in.open(module, item(module.bodies, 2 * i));
      readLocals();
      size = 0;
      most = 0;
      labelCount = 0;
      openLabel(0, (int) module.of(0, module.imported(0) + i, Module.TYPE), true, -1);
      for (int n = 0; n < module.bytes.length && labelCount > 0 && fault == 0; n++) {
        in.instruction();
        sizeBefore = size;
        if (in.op <= 17) control(in.op);
        else other(in.op);
        if (labelCount > 0) most = Math.max(most, size);
      }
      body.slots = localCount;
      body.operands = most;
      body.references = Arrays.copyOf(runs, runCount);
    }

    private void readLocals() {
      localCount = item(body.shape, 0);
      for (int i = 0; i < localCount; i++) setItem(locals, i, item(body.shape, 2 + i));
      runCount = 0;
      long rows = in.number(Reader.U32);
      for (long i = 0; i < rows && in.fault == 0; i++) {
        int count = (int) Math.min(in.number(Reader.U32), locals.length - localCount);
        int type = in.next();
        if (count > 0 && (type == FUNCTION || type == OUTSIDE)) {
          setItem(runs, runCount, localCount);
          setItem(runs, runCount + 1, localCount + count);
          runCount = Math.min(runCount + 2, runs.length);
        }
        for (int j = 0; j < count; j++) setItem(locals, localCount + j, type);
        localCount += count;
      }
    }

    private int label(int i, int what) {
      int at = i * LABEL + what;
      return at >= 0 && at < labels.length ? labels[at] : 0;
    }

    private void setLabel(int i, int what, int v) {
      setItem(labels, i * LABEL + what, v);
    }

    private void openLabel(int op, int type, boolean isEmitted, int start) {
      int top = labelCount;
      labelCount++;
      setLabel(top, BEGUN_BY, op);
      setLabel(top, BLOCK_TYPE, type);
      setLabel(top, LABEL_HEIGHT, size);
      setLabel(top, DEAD, 0);
      setLabel(top, IS_EMITTED, isEmitted ? 1 : 0);
      setLabel(top, CHAIN, -1);
      setLabel(top, START, start);
    }

    private int[] shapeOfLabel(int i) {
      int type = label(i, BLOCK_TYPE);
      if (type >= 0) return module.shape(type);
      return type >= -128 ? simpleShapes[128 + type] : simpleShapes[0];
    }

    private int take(int wanted) {
      int top = labelCount - 1;
      if (size <= label(top, LABEL_HEIGHT)) {
        if (label(top, DEAD) == 0) fail(29);
        return UNKNOWN;
      }
      size--;
      int there = item(row, size);
      if (there != UNKNOWN && wanted != UNKNOWN && there != wanted) fail(29);
      return there;
    }

    private void put(int type) {
      if (size >= MOST_OPERANDS) {
        fail(40);
        return;
      }
      setItem(row, size, type);
      size++;
    }

    private void takeTypes(int[] shape, int from, int count) {
      for (int i = count - 1; i >= 0; i--) take(item(shape, from + i));
    }

    private void putTypes(int[] shape, int from, int count) {
      for (int i = 0; i < count; i++) put(item(shape, from + i));
    }

    private void takeParameters(int[] shape) {
      takeTypes(shape, 2, item(shape, 0));
    }

    private void putParameters(int[] shape) {
      putTypes(shape, 2, item(shape, 0));
    }

    private void putResults(int[] shape) {
      putTypes(shape, 2 + item(shape, 0), item(shape, 1));
    }

    private boolean isLoop(int label) {
      return label(label, BEGUN_BY) == 3;
    }

    private int wantedCount(int label) {
      return item(shapeOfLabel(label), isLoop(label) ? 0 : 1);
    }

    private int wantedFrom(int label) {
      return isLoop(label) ? 2 : 2 + item(shapeOfLabel(label), 0);
    }

    private void takeWanted(int label) {
      takeTypes(shapeOfLabel(label), wantedFrom(label), wantedCount(label));
    }

    private void die() {
      int top = labelCount - 1;
      size = label(top, LABEL_HEIGHT);
      setLabel(top, DEAD, 1);
    }

    /** Code that nothing can come to gets no rows: there the heights would not be those that are. */
    private boolean isEmitting() {
      int top = labelCount - 1;
      return label(top, IS_EMITTED) != 0 && label(top, DEAD) == 0;
    }

    private int emit(int op, int a, int b, int c) {
      return isEmitting() ? body.emit(op, a, b, c, sizeBefore) : -1;
    }

    /** A branch to what is still to come is chained to its label, and aimed when that ends. */
    private void emitBranch(int op, int label) {
      boolean isBack = isLoop(label);
      int target = label(label, isBack ? START : CHAIN);
      int made = emit(op, target, wantedCount(label), label(label, LABEL_HEIGHT));
      if (!isBack && made >= 0) setLabel(label, CHAIN, made);
    }

    /** An instruction that takes up to three values (the top one first) and puts one at most. */
    private void plain(int first, int second, int third, int result) {
      if (first != 0) take(first);
      if (second != 0) take(second);
      if (third != 0) take(third);
      if (result != 0) put(result);
      int takes = (first != 0 ? 1 : 0) + (second != 0 ? 1 : 0) + (third != 0 ? 1 : 0);
      emit(in.op, (int) in.first, (int) in.second, 2 * takes + (result != 0 ? 1 : 0));
    }

    private void emitPlain(int takes, boolean puts) {
      emit(in.op, (int) in.first, (int) in.second, 2 * takes + (puts ? 1 : 0));
    }

    private void other(int op) {
      if (op <= 28) choice(op);
      else if (op <= 36) variable(op);
      else if (op >= 40 && op <= 64) memoryAccess(op);
      else if (op >= 69 && op < 208) operator(op);
      else if (op >= 65 && op <= 68) constantIn(I32 - (op - 65), in.first);
      else if (op >= 208 && op <= 210) reference(op);
      else if (op == 37 || op == 38 || op >= 312) tableAccess(op);
      else stretch(op);
    }

    private void control(int op) {
      switch (op) {
        case 0:
          emitPlain(0, false);
          die();
          break;
        case 1: emitPlain(0, false); break;
        case 2: case 3: case 4: beginBlock(); break;
        case 5: otherwise(); break;
        case 11: endBlock(); break;
        case 12: case 13: branch(in.first); break;
        case 14: branchByTable(); break;
        case 15:
          takeWanted(0);
          emitBranch(12, 0);
          die();
          break;
        case 16: callDirectly(); break;
        default: callByTable();
      }
    }

    private void beginBlock() {
      if (in.first >= module.types.length) {
        fail(30);
        return;
      }
      int type = (int) in.first;
      int[] shape = type >= 0 ? module.shape(type) : simpleShapes[Math.max(0, 128 + type)];
      if (in.op == 4) take(I32);
      takeParameters(shape);
      if (labelCount >= MOST_LABELS) fail(40);
      if (fault != 0) return;
      boolean isEmitted = isEmitting();
      int start = in.op == 4 ? emit(4, -1, 0, 0) : body.rows;
      openLabel(in.op, type, isEmitted, start);
      putParameters(shape);
    }

    private void takeAllResults(int label) {
      int[] shape = shapeOfLabel(label);
      takeTypes(shape, 2 + item(shape, 0), item(shape, 1));
      if (size != label(label, LABEL_HEIGHT)) fail(29);
    }

    private void otherwise() {
      int top = labelCount - 1;
      takeAllResults(top);
      emitBranch(5, top);
      aimCondition(top);
      setLabel(top, BEGUN_BY, 5);
      setLabel(top, DEAD, 0);
      putParameters(shapeOfLabel(top));
    }

    private void aimCondition(int label) {
      int at = label(label, START);
      if (label(label, BEGUN_BY) == 4 && at >= 0) body.aim(at, body.rows);
    }

    private void endBlock() {
      int top = labelCount - 1;
      int[] shape = shapeOfLabel(top);
      takeAllResults(top);
      if (label(top, BEGUN_BY) == 4 && !resultsAreParameters(shape)) fail(29);
      if (fault != 0) return;
      aimCondition(top);
      int at = label(top, CHAIN);
      for (int i = 0; i < body.rows && at >= 0; i++) {
        int before = body.of(at, Body.A);
        body.aim(at, body.rows);
        at = before;
      }
      labelCount--;
      if (labelCount > 0) putResults(shape);
      else body.emit(11, 0, 0, 0, item(shape, 1));
    }

    private static boolean resultsAreParameters(int[] shape) {
      int count = item(shape, 0);
      if (count != item(shape, 1)) return false;
      for (int i = 0; i < count; i++) {
        if (item(shape, 2 + i) != item(shape, 2 + count + i)) return false;
      }
      return true;
    }

    private void branch(long depth) {
      if (depth >= labelCount) {
        fail(30);
        return;
      }
      int label = labelCount - 1 - (int) depth;
      if (in.op == 13) take(I32);
      takeWanted(label);
      if (in.op == 13) putTypes(shapeOfLabel(label), wantedFrom(label), wantedCount(label));
      emitBranch(in.op, label);
      if (in.op == 12) die();
    }

    private void branchByTable() {
      int count = (int) in.first;
      int last = 0;
      in.at = (int) in.second;
      for (int i = 0; i <= count; i++) {
        long depth = in.number(Reader.U32);
        if (depth >= labelCount) fail(30);
        last = labelCount - 1 - index(depth);
      }
      if (fault != 0) return;
      take(I32);
      emit(14, count, 0, 0);
      in.at = (int) in.second;
      for (int i = 0; i <= count && fault == 0; i++) {
        int label = labelCount - 1 - (int) in.number(Reader.U32);
        if (wantedCount(label) != wantedCount(last)) fail(29);
        else if (i < count) takeAndPutAgain(label);
        else takeWanted(label);
        emitBranch(12, label);
      }
      die();
    }

    private void takeAndPutAgain(int label) {
      int count = Math.min(taken.length, wantedCount(label));
      int[] shape = shapeOfLabel(label);
      int from = wantedFrom(label);
      for (int i = count - 1; i >= 0; i--) taken[i] = take(item(shape, from + i));
      for (int i = 0; i < count; i++) put(taken[i]);
    }

    private void callDirectly() {
      if (!module.has(0, in.first)) {
        fail(30);
        return;
      }
      int[] shape = module.shapeOfFunction((int) in.first);
      takeParameters(shape);
      putResults(shape);
      emit(16, (int) in.first, 0, item(shape, 0));
    }

    private void callByTable() {
      boolean isThere = in.first < module.types.length && module.has(1, in.second);
      if (!isThere || module.of(1, (int) in.second, Module.TYPE) != FUNCTION) {
        fail(30);
        return;
      }
      int[] shape = module.shape((int) in.first);
      take(I32);
      takeParameters(shape);
      putResults(shape);
      emit(17, (int) in.first, (int) in.second, item(shape, 0));
    }

    private void choice(int op) {
      if (op == 26) {
        take(UNKNOWN);
        emitPlain(1, false);
      } else if (op == 28) {
        int type = (int) in.second;
        plain(I32, type, type, type);
      } else {
        take(I32);
        int y = take(UNKNOWN);
        int x = take(UNKNOWN);
        if (!isNumber(x) || !isNumber(y) || x != UNKNOWN && y != UNKNOWN && x != y) fail(29);
        put(x != UNKNOWN ? x : y);
        emitPlain(3, true);
      }
    }

    private static boolean isNumber(int type) {
      return type == UNKNOWN || type >= F64 && type <= I32;
    }

    private void variable(int op) {
      int i = index(in.first);
      boolean isThere = op <= 34 ? i < localCount : module.has(3, i);
      boolean isFixed = op == 36 && isThere && module.of(3, i, Module.CHANGES) == 0;
      if (!isThere || isFixed) {
        fail(30);
        return;
      }
      int type = op <= 34 ? item(locals, i) : (int) module.of(3, i, Module.TYPE);
      if (op == 33 || op == 34 || op == 36) take(type);
      if (op == 32 || op == 34 || op == 35) put(type);
      int takes = op == 33 || op == 34 || op == 36 ? 1 : 0;
      emitPlain(takes, op == 32 || op == 34 || op == 35);
    }

    private void memoryAccess(int op) {
      boolean isAligned = op >= 63 || in.first <= Memories.logOfWidth(op);
      if (module.count(2) == 0 || !isAligned) {
        fail(30);
        return;
      }
      if (op == 63) plain(0, 0, 0, I32);
      else if (op == 64) plain(I32, 0, 0, I32);
      else if (op < 54) plain(I32, 0, 0, Memories.valueType(op));
      else plain(Memories.valueType(op), I32, 0, 0);
    }

    private void operator(int op) {
      int type = I32 - Numbers.operandType(op);
      plain(type, Numbers.isBinary(op) ? type : 0, 0, I32 - Numbers.resultType(op));
    }

    private void constantIn(int type, long bits) {
      put(type);
      emit(65, (int) bits, (int) (bits >>> 32), 1);
    }

    private void reference(int op) {
      if (op == 208) {
        constantIn((int) in.first, -1);
      } else if (op == 209) {
        int type = take(UNKNOWN);
        if (type != UNKNOWN && type != FUNCTION && type != OUTSIDE) fail(29);
        put(I32);
        emitPlain(1, true);
      } else {
        int function = index(in.first);
        if (function >= isDeclared.length || !isDeclared[function]) fail(30);
        plain(0, 0, 0, FUNCTION);
      }
    }

    /** 37, 38 and those behind 252 that have to do with tables. */
    private void tableAccess(int op) {
      int first = index(in.first);
      int second = index(in.second);
      boolean isOfElement = op == 312 || op == 313;
      boolean isThere = isOfElement ? first < module.elements.length / Module.SEGMENT : module.has(1, first);
      if (op == 312 || op == 314) isThere = isThere && module.has(1, second);
      int type = isOfElement ? item(module.elements, first * Module.SEGMENT + Module.ITEM_TYPE)
          : (int) module.of(1, first, Module.TYPE);
      boolean isSame = op != 312 && op != 314 || module.of(1, second, Module.TYPE) == type;
      if (!isThere || !isSame) {
        fail(30);
        return;
      }
      switch (op) {
        case 37: plain(I32, 0, 0, type); break;
        case 38: plain(type, I32, 0, 0); break;
        case 313: plain(0, 0, 0, 0); break;
        case 315: plain(I32, type, 0, I32); break;
        case 316: plain(0, 0, 0, I32); break;
        case 317: plain(I32, type, I32, 0); break;
        default: plain(I32, I32, I32, 0);
      }
    }

    /** 252 with 8 .. 11. */
    private void stretch(int op) {
      boolean isThere = op == 309 || module.count(2) > 0;
      if (op <= 309) isThere = isThere && in.first < module.data.length / Module.SEGMENT;
      if (!isThere) {
        fail(30);
        return;
      }
      int wanted = op == 309 ? 0 : I32;
      plain(wanted, wanted, wanted, 0);
    }
  }

  /** Part III: the operators over numbers, which are bits in a long; those of 32 bits have zeros above. */
  private static final class Numbers {
    static final int BY_ZERO = 2;
    static final int NOT_THERE = 3;
    static final int OF_NONE = 4;

    // Of the operators 167 .. 196, by their order.
    private static final String FROM = "122330022330011300112230100111";
    private static final String TO = "000001111112222233333012300111";

    // Significands stand so that their highest bit is this one, whatever type they come from.
    private static final int HIGHEST = 52;
    private static final long SIGN32 = 0x80000000L;
    private static final long SIGN64 = 0x8000000000000000L;
    private static final long INFINITE32 = 0x7f800000L;
    private static final long INFINITE64 = 0x7ff0000000000000L;
    private static final long NONE32 = 0x7fc00000L;
    private static final long NONE64 = 0x7ff8000000000000L;

    int trap;

    static int operandType(int op) {
      if (op >= 200) return 2 + (op >> 1 & 1);
      if (op >= 167) return FROM.charAt(Math.min(op - 167, 29)) - '0';
      if (op < 103) return op < 80 ? 0 : op < 91 ? 1 : op < 97 ? 2 : 3;
      return op < 121 ? 0 : op < 139 ? 1 : op < 153 ? 2 : 3;
    }

    static int resultType(int op) {
      if (op >= 200) return op < 204 ? 0 : 1;
      if (op >= 167) return TO.charAt(Math.min(op - 167, 29)) - '0';
      return op < 103 ? 0 : operandType(op);
    }

    static boolean isBinary(int op) {
      if (op < 103) return op != 69 && op != 80;
      if (op < 139) return op != 103 && op != 104 && op != 105 && (op < 121 || op > 123);
      return op >= 146 && op <= 152 || op >= 160 && op <= 166;
    }

    /** What an operator gives; a trap is told in trap, which is 0 without one. */
    long apply(int op, long x, long y) {
      trap = 0;
      if (op < 80) return compareWhole(op - 69, (int) x, (int) y, Long.compare(x, y));
      if (op < 91) return compareWhole(op - 80, x, y, compareWithoutSign(x, y));
      if (op < 97) return compareFloating(2, op - 91, x, y);
      if (op < 103) return compareFloating(3, op - 97, x, y);
      if (op < 121) return whole32(op - 103, (int) x, (int) y) & LOW32;
      if (op < 139) return whole64(op - 121, x, y);
      if (op < 153) return floating(2, op - 139, x, y);
      if (op < 167) return floating(3, op - 153, x, y);
      if (op < 178 || op >= 192) return toWhole(op, x);
      return toFloating(op, x);
    }

    private static int compareWithoutSign(long x, long y) {
      return Long.compare(x ^ SIGN64, y ^ SIGN64);
    }

    private static long compareWhole(int which, long x, long y, int unsigned) {
      boolean is;
      switch (which) {
        case 0: is = x == 0; break;
        case 1: is = x == y; break;
        case 2: is = x != y; break;
        case 3: is = x < y; break;
        case 4: is = unsigned < 0; break;
        case 5: is = x > y; break;
        case 6: is = unsigned > 0; break;
        case 7: is = x <= y; break;
        case 8: is = unsigned <= 0; break;
        case 9: is = x >= y; break;
        default: is = unsigned >= 0;
      }
      return is ? 1 : 0;
    }

    private static long compareFloating(int type, int which, long x, long y) {
      if (isNone(type, x) || isNone(type, y)) return which == 1 ? 1 : 0;
      long a = isZero(type, x) ? 0 : order(type, x);
      long b = isZero(type, y) ? 0 : order(type, y);
      boolean is;
      switch (which) {
        case 0: is = a == b; break;
        case 1: is = a != b; break;
        case 2: is = a < b; break;
        case 3: is = a > b; break;
        case 4: is = a <= b; break;
        default: is = a >= b;
      }
      return is ? 1 : 0;
    }

    private long whole32(int which, int x, int y) {
      if (which >= 6 && which <= 9) return divide32(which, x, y);
      switch (which) {
        case 0: return Integer.numberOfLeadingZeros(x);
        case 1: return Integer.numberOfTrailingZeros(x);
        case 2: return Integer.bitCount(x);
        case 3: return x + y;
        case 4: return x - y;
        case 5: return x * y;
        case 10: return x & y;
        case 11: return x | y;
        case 12: return x ^ y;
        case 13: return x << (y & 31);
        case 14: return x >> (y & 31);
        case 15: return x >>> (y & 31);
        case 16: return x << (y & 31) | x >>> (-y & 31);
        default: return x >>> (y & 31) | x << (-y & 31);
      }
    }

    private long divide32(int which, int x, int y) {
      if (y == 0) {
        trap = BY_ZERO;
        return 0;
      }
      if (which == 6 && x == Integer.MIN_VALUE && y == -1) {
        trap = NOT_THERE;
        return 0;
      }
      long a = which == 6 || which == 8 ? x : x & LOW32;
      long b = which == 6 || which == 8 ? y : y & LOW32;
      return which <= 7 ? a / b : a % b;
    }

    private long whole64(int which, long x, long y) {
      if (which >= 6 && which <= 9) return divide64(which, x, y);
      int by = (int) y & 63;
      switch (which) {
        case 0: return Long.numberOfLeadingZeros(x);
        case 1: return Long.numberOfTrailingZeros(x);
        case 2: return Long.bitCount(x);
        case 3: return x + y;
        case 4: return x - y;
        case 5: return x * y;
        case 10: return x & y;
        case 11: return x | y;
        case 12: return x ^ y;
        case 13: return x << by;
        case 14: return x >> by;
        case 15: return x >>> by;
        case 16: return x << by | x >>> (-by & 63);
        default: return x >>> by | x << (-by & 63);
      }
    }

    private long divide64(int which, long x, long y) {
      if (y == 0) {
        trap = BY_ZERO;
        return 0;
      }
      if (which == 7) return quotientWithoutSign(x, y);
      if (which == 9) return x - y * quotientWithoutSign(x, y);
      boolean isLeastByMinusOne = x == Long.MIN_VALUE && y == -1;
      if (isLeastByMinusOne && which == 6) trap = NOT_THERE;
      if (isLeastByMinusOne) return 0;
      return which == 6 ? x / y : x % y;
    }

    /** 0 when y is 0: that has trapped ahead of this. */
    private static long quotientWithoutSign(long x, long y) {
      if (y == 0) return 0;
      // Twice such a y is more than 64 bits hold, so it goes into x once at most.
      if (y < 0) return x < 0 && x >= y ? 1 : 0;
      if (x >= 0) return x / y;
      // Half of x can be divided with sign; twice that quotient is the one wanted, or one less.
      long quotient = (x >>> 1) / y << 1;
      long rest = x - quotient * y;
      return rest < 0 || rest >= y ? quotient + 1 : quotient;
    }

    // Floating numbers. The type is 2 or 3; e, f, P and E are those of the document.

    private static long sign(int type) {
      return type == 2 ? SIGN32 : SIGN64;
    }

    private static long infinite(int type) {
      return type == 2 ? INFINITE32 : INFINITE64;
    }

    private static long none(int type) {
      return type == 2 ? NONE32 : NONE64;
    }

    private static boolean isNone(int type, long x) {
      return type == 2 ? (x & ~SIGN32) > INFINITE32 : (x & ~SIGN64) > INFINITE64;
    }

    private static boolean isInfinite(int type, long x) {
      return type == 2 ? (x & ~SIGN32) == INFINITE32 : (x & ~SIGN64) == INFINITE64;
    }

    private static boolean isZero(int type, long x) {
      return type == 2 ? (x & ~SIGN32) == 0 : (x & ~SIGN64) == 0;
    }

    private static boolean isMinus(int type, long x) {
      return (x & (type == 2 ? SIGN32 : SIGN64)) != 0;
    }

    /** Numbers in the order of their values, with ZERO with sign just below the one without. */
    private static long order(int type, long x) {
      long sign = type == 2 ? SIGN32 : SIGN64;
      return (x & sign) == 0 ? x : -1 - (x & ~sign);
    }

    /** The significand of a number that is neither ZERO, INFINITE nor NONE, up to bit 52. */
    private static long significand(int type, long x) {
      int p = type == 2 ? 24 : 53;
      long size = x & ~(type == 2 ? SIGN32 : SIGN64);
      long f = size & (1L << p - 1) - 1;
      if (size >>> p - 1 != 0) f |= 1L << p - 1;
      return f << Math.max(0, Long.numberOfLeadingZeros(f) - 11);
    }

    /** The power of two that the lowest bit of that significand counts. */
    private static int scale(int type, long x) {
      int p = type == 2 ? 24 : 53;
      long size = x & ~(type == 2 ? SIGN32 : SIGN64);
      int e = (int) (size >>> p - 1);
      long f = size & (1L << p - 1) - 1;
      if (e != 0) f |= 1L << p - 1;
      int shift = Math.max(0, Long.numberOfLeadingZeros(f) - 11);
      return Math.max(1, e) + 1 - (type == 2 ? 127 : 1023) - p - shift;
    }

    /**
     * Rounds exact * 2 ^ scale. What was cut off ahead of this may be told by a lowest bit that is
     * set, when there are at least two bits more than the type has.
     */
    private static long round(int type, boolean isMinus, long exact, int scale) {
      int p = type == 2 ? 24 : 53;
      int e = type == 2 ? 127 : 1023;
      long sign = !isMinus ? 0 : type == 2 ? SIGN32 : SIGN64;
      if (exact == 0) return sign;
      if (exact < 0) {
        exact = exact >>> 1 | exact & 1;
        scale++;
      }
      int bits = 64 - Long.numberOfLeadingZeros(exact);
      int unit = Math.max(scale + bits - p, 2 - e - p);
      int shift = unit - scale;
      // So far below the least unit that it is less than half of it.
      if (shift > 63) return sign;
      long kept = shift <= 0 ? exact << -shift : exact >>> shift;
      if (shift > 0) {
        long rest = exact - (kept << shift);
        long half = 1L << shift - 1;
        if (rest > half || rest == half && (kept & 1) == 1) kept++;
      }
      if (kept == 1L << p) {
        kept >>= 1;
        unit++;
      }
      if (kept < 1L << p - 1) return sign | kept;
      int exponent = unit - 1 + e + p;
      if (exponent > 2 * e) return sign | (type == 2 ? INFINITE32 : INFINITE64);
      return sign | ((long) exponent << p - 1) + (kept - (1L << p - 1));
    }

    private static long floating(int type, int which, long x, long y) {
      long sign = sign(type);
      if (which == 0) return x & ~sign;
      if (which == 1) return x ^ sign;
      if (which == 13) return x & ~sign | y & sign;
      if (isNone(type, x) || which > 6 && isNone(type, y)) return none(type);
      switch (which) {
        case 2: case 3: case 4: case 5: return toWholeFloating(type, which, x);
        case 6: return root(type, x);
        case 7: return add(type, x, y);
        case 8: return add(type, x, y ^ sign);
        case 9: return multiply(type, x, y);
        case 10: return divide(type, x, y);
        case 11: return order(type, x) <= order(type, y) ? x : y;
        default: return order(type, x) >= order(type, y) ? x : y;
      }
    }

    /** To a whole number: 2 not less, 3 not greater, 4 towards 0, 5 the nearest. */
    private static long toWholeFloating(int type, int which, long x) {
      if (isZero(type, x) || isInfinite(type, x) || scale(type, x) >= 0) return x;
      boolean isMinus = isMinus(type, x);
      long exact = significand(type, x);
      // Below a half, all bits are behind the point; two of them are enough to tell it.
      int shift = Math.min(-scale(type, x), HIGHEST + 2);
      long whole = exact >>> shift;
      long rest = exact - (whole << shift);
      long half = 1L << shift - 1;
      boolean isUp = which == 2 && !isMinus || which == 3 && isMinus;
      if (isUp && rest != 0) whole++;
      if (which == 5 && (rest > half || rest == half && (whole & 1) == 1)) whole++;
      return round(type, isMinus, whole, 0);
    }

    private static long root(int type, long x) {
      if (isZero(type, x)) return x;
      if (isMinus(type, x)) return none(type);
      if (isInfinite(type, x)) return x;
      int scale = scale(type, x);
      long exact = significand(type, x);
      if ((scale & 1) != 0) {
        exact <<= 1;
        scale--;
      }
      // Digit by digit, two bits of the number (54 of them, then zeros) for one of the root.
      long root = 0;
      long rest = 0;
      for (int i = 26; i > -30; i--) {
        rest = rest << 2 | (i >= 0 ? exact >>> 2 * i & 3 : 0);
        long trial = root << 2 | 1;
        root <<= 1;
        if (rest >= trial) {
          rest -= trial;
          root |= 1;
        }
      }
      return round(type, false, rest != 0 ? root | 1 : root, scale / 2 - 29);
    }

    private static long add(int type, long x, long y) {
      if (isInfinite(type, x)) return isInfinite(type, y) && x != y ? none(type) : x;
      if (isInfinite(type, y)) return y;
      if (isZero(type, x) && isZero(type, y)) return x & y;
      if (isZero(type, x)) return y;
      if (isZero(type, y)) return x;
      boolean isXGreater = scale(type, x) >= scale(type, y);
      long great = isXGreater ? x : y;
      long small = isXGreater ? y : x;
      int apart = scale(type, great) - scale(type, small);
      long a = significand(type, great) << 9;
      long b = significand(type, small) << 9;
      if (apart > 62) b = 1;
      else if (apart > 0) b = b >>> apart | ((b & (1L << apart) - 1) != 0 ? 1 : 0);
      long sum = (isMinus(type, great) ? -a : a) + (isMinus(type, small) ? -b : b);
      return round(type, sum < 0, Math.abs(sum), scale(type, great) - 9);
    }

    private static long multiply(int type, long x, long y) {
      boolean isMinus = isMinus(type, x) != isMinus(type, y);
      long sign = isMinus ? sign(type) : 0;
      boolean isAnyZero = isZero(type, x) || isZero(type, y);
      if (isInfinite(type, x) || isInfinite(type, y)) return isAnyZero ? none(type) : sign | infinite(type);
      if (isAnyZero) return sign;
      long a = significand(type, x);
      long b = significand(type, y);
      long low27 = (1L << 27) - 1;
      long cross = (a >>> 27) * (b & low27) + (a & low27) * (b >>> 27);
      long low = (a & low27) * (b & low27) + ((cross & low27) << 27);
      long high = (a >>> 27) * (b >>> 27) + (cross >>> 27) + (low >>> 54);
      low &= (1L << 54) - 1;
      long exact = high << 10 | low >>> 44 | ((low & (1L << 44) - 1) != 0 ? 1 : 0);
      return round(type, isMinus, exact, scale(type, x) + scale(type, y) + 44);
    }

    private static long divide(int type, long x, long y) {
      boolean isMinus = isMinus(type, x) != isMinus(type, y);
      long sign = isMinus ? sign(type) : 0;
      if (isInfinite(type, x)) return isInfinite(type, y) ? none(type) : sign | infinite(type);
      if (isInfinite(type, y)) return sign;
      if (isZero(type, y)) return isZero(type, x) ? none(type) : sign | infinite(type);
      if (isZero(type, x)) return sign;
      long rest = significand(type, x);
      long by = Math.max(1, significand(type, y));
      long quotient = rest / by;
      rest %= by;
      for (int i = 0; i < 6; i++) {
        rest <<= 10;
        quotient = quotient << 10 | rest / by;
        rest %= by;
      }
      return round(type, isMinus, rest != 0 ? quotient | 1 : quotient, scale(type, x) - scale(type, y) - 60);
    }

    private long toWhole(int op, long x) {
      switch (op) {
        case 167: return x & LOW32;
        case 172: return (int) x;
        case 173: return x & LOW32;
        case 192: return (byte) x & LOW32;
        case 193: return (short) x & LOW32;
        case 194: return (byte) x;
        case 195: return (short) x;
        case 196: return (int) x;
        default: return truncated(operandType(op), resultType(op) == 0 ? 32 : 64, op, x);
      }
    }

    /** 168 .. 171 and 174 .. 177 trap where 200 .. 207 keep to what there is; the even ones have a sign. */
    private long truncated(int type, int bits, int op, long x) {
      boolean keeps = op >= 200;
      if (isNone(type, x)) {
        if (!keeps) trap = OF_NONE;
        return 0;
      }
      boolean isMinus = isMinus(type, x);
      boolean hasSign = (op & 1) == 0;
      long size = 0;
      boolean isTooGreat = isInfinite(type, x);
      if (!isTooGreat && !isZero(type, x)) {
        int scale = scale(type, x);
        isTooGreat = scale > 11;
        if (scale >= 0) size = significand(type, x) << Math.min(scale, 11);
        else if (scale > -64) size = significand(type, x) >>> -scale;
      }
      long most = hasSign ? (1L << bits - 1) - (isMinus ? 0 : 1) : isMinus ? 0 : -1L >>> 64 - bits;
      if (isTooGreat || compareWithoutSign(size, most) > 0) {
        if (!keeps) trap = NOT_THERE;
        size = keeps ? most : 0;
      }
      return (isMinus ? -size : size) & -1L >>> 64 - bits;
    }

    private static long toFloating(int op, long x) {
      switch (op) {
        case 178: case 179: return fromWhole(2, op == 178 ? (int) x : x & LOW32, false);
        case 180: case 181: return fromWhole(2, x, op == 181);
        case 183: case 184: return fromWhole(3, op == 183 ? (int) x : x & LOW32, false);
        case 185: case 186: return fromWhole(3, x, op == 186);
        case 182: return resized(3, 2, x);
        case 187: return resized(2, 3, x);
        default: return x;
      }
    }

    private static long fromWhole(int type, long x, boolean isUnsigned) {
      boolean isMinus = x < 0 && !isUnsigned;
      return round(type, isMinus, isMinus ? -x : x, 0);
    }

    private static long resized(int from, int to, long x) {
      if (isNone(from, x)) return none(to);
      long sign = isMinus(from, x) ? sign(to) : 0;
      if (isZero(from, x)) return sign;
      if (isInfinite(from, x)) return sign | infinite(to);
      return round(to, sign != 0, significand(from, x), scale(from, x));
    }
  }

  /** All memories of an engine; a page gets its bytes when it comes to be. */
  private static final class Memories {
    static final int MOST = 16;
    static final int MOST_PAGES = 8;
    private static final int PAGE = 65536;
    private static final long ENDLESS = 65536;

    // Of the instructions 40 .. 62, by their order: how many bytes, as a power of two; the type.
    private static final String WIDTHS = "23230011001122232301012";
    private static final String TYPES = "01230000111111012300111";

    int count;
    int left = MOST_PAGES;
    final int[] sizes = new int[MOST];
    final long[] greatest = new long[MOST];
    private final byte[][] pages = new byte[MOST * MOST_PAGES][0];

    static int logOfWidth(int op) {
      return op >= 40 && op <= 62 ? WIDTHS.charAt(op - 40) - '0' : 0;
    }

    static int valueType(int op) {
      return I32 - (op >= 40 && op <= 62 ? TYPES.charAt(op - 40) - '0' : 0);
    }

    int create(long least, long most) {
      int number = count;
      count++;
      setItem(sizes, number, 0);
      setItem(greatest, number, most);
      grow(number, least);
      return number;
    }

    /** How many pages there were; -1 when there can't be so many more. */
    int grow(int number, long more) {
      int size = item(sizes, number);
      long limit = item(greatest, number) < 0 ? ENDLESS : item(greatest, number);
      if (number < 0 || more > left || size + more > limit) return -1;
      for (int i = 0; i < more; i++) {
        int page = number * MOST_PAGES + size + i;
        if (page < pages.length) pages[page] = new byte[PAGE];
      }
      left -= (int) more;
      setItem(sizes, number, size + (int) more);
      return size;
    }

    boolean reaches(int number, long from, long length) {
      return from >= 0 && length >= 0 && from + length <= (long) item(sizes, number) * PAGE;
    }

    /** How many bytes the page has from an address on: 0 where there is no page. */
    private int leftOfPage(int number, long address) {
      return address >= 0 && number >= 0 && address < (long) item(sizes, number) * PAGE
          && pages[pageOf(number, address)].length == PAGE ? PAGE - (int) (address & PAGE - 1) : 0;
    }

    private int pageOf(int number, long address) {
      long page = (long) number * MOST_PAGES + (address >>> 16);
      return page < 0 || page >= pages.length ? 0 : (int) page;
    }

    int byteAt(int number, long address) {
      byte[] page = pages[pageOf(number, address)];
      int at = (int) (address & PAGE - 1);
      return at < page.length ? page[at] & 255 : 0;
    }

    void setByte(int number, long address, int v) {
      byte[] page = pages[pageOf(number, address)];
      int at = (int) (address & PAGE - 1);
      if (at < page.length) page[at] = (byte) v;
    }

    /** What one of 40 .. 53 loads. */
    long load(int number, int op, long from) {
      int width = 1 << logOfWidth(op);
      long bits = 0;
      for (int i = width - 1; i >= 0; i--) bits = bits << 8 | byteAt(number, from + i);
      boolean hasSign = op >= 44 && (op & 1) == 0;
      if (!hasSign) return bits;
      int above = 64 - 8 * width;
      bits = bits << above >> above;
      return op < 48 ? bits & LOW32 : bits;
    }

    /** Stores what one of 54 .. 62 does. */
    void save(int number, int op, long to, long bits) {
      int width = 1 << logOfWidth(op);
      for (int i = 0; i < width; i++) setByte(number, to + i, (int) (bits >>> 8 * i));
    }

    void fill(int number, long to, int v, long length) {
      long done = 0;
      for (int i = 0; i < 2 * MOST_PAGES && done < length; i++) {
        int part = (int) Math.min(length - done, leftOfPage(number, to + done));
        if (part <= 0) return;
        int from = (int) (to + done & PAGE - 1);
        Arrays.fill(pages[pageOf(number, to + done)], from, from + part, (byte) v);
        done += part;
      }
    }

    /** From the end on when it goes upwards, so that nothing is overwritten that is still to be taken. */
    void copy(int number, long to, long from, long length) {
      long done = 0;
      for (int i = 0; i < 4 * MOST_PAGES && done < length; i++) {
        long rest = length - done;
        boolean isUpwards = to > from;
        long a = isUpwards ? to + rest - 1 : to + done;
        long b = isUpwards ? from + rest - 1 : from + done;
        int roomA = isUpwards ? (int) (a & PAGE - 1) + 1 : leftOfPage(number, a);
        int roomB = isUpwards ? (int) (b & PAGE - 1) + 1 : leftOfPage(number, b);
        int part = (int) Math.min(rest, Math.min(roomA, roomB));
        if (part <= 0 || leftOfPage(number, a) == 0 || leftOfPage(number, b) == 0) return;
        int back = isUpwards ? part - 1 : 0;
        System.arraycopy(pages[pageOf(number, b)], (int) (b & PAGE - 1) - back,
            pages[pageOf(number, a)], (int) (a & PAGE - 1) - back, part);
        done += part;
      }
    }
  }

  /** All tables of an engine. */
  private static final class Tables {
    static final int MOST = 32;
    static final int MOST_ENTRIES = 1024;
    private static final long ENDLESS = 4294967295L;

    int count;
    int left = MOST_ENTRIES;
    final int[] types = new int[MOST];
    final int[] sizes = new int[MOST];
    final long[] greatest = new long[MOST];
    private final int[][] entries = new int[MOST][0];

    int create(int type, long least, long most) {
      int number = count;
      count++;
      setItem(types, number, type);
      setItem(sizes, number, 0);
      setItem(greatest, number, most);
      grow(number, least, -1);
      return number;
    }

    /** How many entries there were; -1 when there can't be so many more. */
    int grow(int number, long more, int reference) {
      int size = item(sizes, number);
      long limit = item(greatest, number) < 0 ? ENDLESS : item(greatest, number);
      if (number < 0 || number >= entries.length || more > left || size + more > limit) return -1;
      int grown = size + (int) more;
      // Twice as many, so that growing one by one does not make a row for each.
      if (grown > entries[number].length) {
        int room = Math.min(MOST_ENTRIES, Math.max(grown, 2 * size));
        entries[number] = Arrays.copyOf(entries[number], room);
      }
      left -= (int) more;
      setItem(sizes, number, grown);
      fill(number, size, reference, more);
      return size;
    }

    boolean reaches(int number, long from, long length) {
      return from >= 0 && length >= 0 && from + length <= item(sizes, number);
    }

    int entry(int number, long i) {
      boolean isThere = number >= 0 && number < entries.length && i >= 0 && i < entries[number].length;
      return isThere ? entries[number][(int) i] : -1;
    }

    void setEntry(int number, long i, int reference) {
      boolean isThere = number >= 0 && number < entries.length && i >= 0 && i < entries[number].length;
      if (isThere) entries[number][(int) i] = reference;
    }

    void fill(int number, long to, int reference, long length) {
      boolean isThere = number >= 0 && number < entries.length && to >= 0 && length >= 0;
      if (!isThere || to + length > entries[number].length) return;
      Arrays.fill(entries[number], (int) to, (int) (to + length), reference);
    }

    void copyFrom(int[] row, int number, long to, long from, long length) {
      for (long i = 0; i < length; i++) setEntry(number, to + i, item(row, (int) (from + i)));
    }

    void copy(int number, int other, long to, long from, long length) {
      boolean isUpwards = to > from;
      for (long i = 0; i < length; i++) {
        long k = isUpwards ? length - 1 - i : i;
        setEntry(number, to + k, entry(other, from + k));
      }
    }
  }

  /** A module that was made: where in the store its things are, and what its segments still have. */
  private static final class Instance {
    final Module plan;
    final int[] functions;
    final int[] tables;
    final int[] memories;
    final int[] globals;
    final int[][] elements;
    final int[] elementSizes;
    final int[] dataSizes;

    Instance(Module plan) {
      this.plan = plan;
      functions = new int[plan.count(0)];
      tables = new int[plan.count(1)];
      memories = new int[plan.count(2)];
      globals = new int[plan.count(3)];
      elements = new int[plan.elements.length / Module.SEGMENT][0];
      elementSizes = new int[elements.length];
      dataSizes = new int[plan.data.length / Module.SEGMENT];
    }

    int[] numbers(int kind) {
      return kind == 0 ? functions : kind == 1 ? tables : kind == 2 ? memories : globals;
    }

    int exportKind(int k) {
      if (k < 0 || k >= plan.exports.length / Module.EXPORT) return -1;
      return item(plan.exports, k * Module.EXPORT + Module.EXPORT_KIND);
    }

    int exportNumber(int k) {
      if (k < 0 || k >= plan.exports.length / Module.EXPORT) return -1;
      int kind = item(plan.exports, k * Module.EXPORT + Module.EXPORT_KIND);
      return item(numbers(kind), item(plan.exports, k * Module.EXPORT + Module.EXPORT_INDEX));
    }
  }

  /** Part IV: what the instances of an engine share, and what single instructions do to it. */
  private static final class Store {
    static final int HOST = -1;
    private static final int FUNCTIONS = 512;
    private static final int GLOBALS = 256;
    private static final int INSTANCES = 16;
    private static final int REFERENCES = 2048;
    private static final int UNREACHABLE = 1;
    private static final int BEYOND_MEMORY = 5;
    private static final int BEYOND_TABLE = 6;

    int trap;
    int functionCount;
    int changedCount;
    int instanceCount;
    final Tables tables = new Tables();
    final Memories memories = new Memories();
    final int[] globalTypes = new int[GLOBALS];
    final long[] globalBits = new long[GLOBALS];
    private final boolean[] globalChanges = new boolean[GLOBALS];
    private int globalCount;
    // HOST's functions have a body, too, which has nothing but its shape.
    private final Body[] bodies = new Body[FUNCTIONS];
    private final Instance[] homes = new Instance[FUNCTIONS];
    private final int[] hosts = new int[FUNCTIONS];
    private final int[] frames = new int[FUNCTIONS];
    private final boolean[] isChanged = new boolean[FUNCTIONS];
    private final Instance[] instances = new Instance[INSTANCES];
    private final Instance nowhere;
    private int referencesLeft = REFERENCES;
    private final Reader in;
    private final Numbers numbers = new Numbers();

    Store(Reader reader, Module none) {
      in = reader;
      nowhere = new Instance(none);
      Body nothing = new Body(new int[2], 0);
      for (int i = 0; i < bodies.length; i++) bodies[i] = nothing;
      for (int i = 0; i < homes.length; i++) homes[i] = nowhere;
      for (int i = 0; i < instances.length; i++) instances[i] = nowhere;
    }

    Instance instanceAt(int i) {
      return i >= 0 && i < instanceCount && i < instances.length ? instances[i] : nowhere;
    }

    Body bodyOf(int function) {
      return bodies[function >= 0 && function < bodies.length ? function : 0];
    }

    int[] shapeOf(int function) {
      return bodyOf(function).shape;
    }

    Instance homeOf(int function) {
      return homes[function >= 0 && function < homes.length ? function : 0];
    }

    /** Which of HOST's functions it is; -1 for a function of a module. */
    int hostNumber(int function) {
      return function >= 0 && function < hosts.length ? hosts[function] : -1;
    }

    /** Counts a frame that is made for a function: whether it is one that has code for registers. */
    boolean countFrame(int function, int tier) {
      if (function < 0 || function >= FUNCTIONS) return false;
      frames[function]++;
      if (!isChanged[function] && tier > 0 && frames[function] >= tier) {
        isChanged[function] = true;
        changedCount++;
      }
      return isChanged[function];
    }

    static boolean isSameShape(int[] x, int[] y) {
      if (x.length != y.length) return false;
      for (int i = 0; i < x.length; i++) {
        if (x[i] != y[i]) return false;
      }
      return true;
    }

    /** Why no instance can be made, as make() tells it; 0 when it can. */
    int refusal(Module plan, int[] offers, int offered) {
      if (offered != plan.imports.length / Module.ENTRY) return -2;
      for (int i = 0; i < offered; i++) {
        if (!fits(plan, i * Module.ENTRY, item(offers, 2 * i), item(offers, 2 * i + 1))) {
          return -3 - (int) item(plan.imports, i * Module.ENTRY + Module.KIND);
        }
      }
      return hasRoom(plan, offers, offered) ? 0 : -9;
    }

    private boolean fits(Module plan, int entry, int kind, int number) {
      int wanted = (int) item(plan.imports, entry + Module.KIND);
      long type = item(plan.imports, entry + Module.TYPE);
      if (kind == HOST) return wanted == 0;
      if (kind != wanted) return false;
      switch (kind) {
        case 0: return isSameShape(shapeOf(number), plan.shape((int) type));
        case 1: return item(tables.types, number) == type
            && isLimited(plan.imports, entry, item(tables.sizes, number), item(tables.greatest, number));
        case 2: return isLimited(plan.imports, entry, item(memories.sizes, number), item(memories.greatest, number));
        default:
          boolean changes = number >= 0 && number < GLOBALS && globalChanges[number];
          return item(globalTypes, number) == type && changes == (item(plan.imports, entry + Module.CHANGES) == 1);
      }
    }

    private static boolean isLimited(long[] imports, int entry, int size, long greatest) {
      long most = item(imports, entry + Module.GREATEST);
      if (size < item(imports, entry + Module.LEAST)) return false;
      return most < 0 || greatest >= 0 && greatest <= most;
    }

    private boolean hasRoom(Module plan, int[] offers, int offered) {
      int functions = plan.codes.length;
      for (int i = 0; i < offered; i++) {
        if (item(offers, 2 * i) == HOST) functions++;
      }
      int ownTables = plan.count(1) - plan.imported(1);
      int ownMemories = plan.count(2) - plan.imported(2);
      int ownGlobals = plan.count(3) - plan.imported(3);
      long references = 0;
      for (int i = 0; i < plan.elements.length; i += Module.SEGMENT) {
        references += item(plan.elements, i + Module.COUNT);
      }
      return instanceCount < INSTANCES
          && functions <= FUNCTIONS - functionCount
          && ownTables <= Tables.MOST - tables.count
          && leastInAll(plan, 1) <= tables.left
          && ownMemories <= Memories.MOST - memories.count
          && leastInAll(plan, 2) <= memories.left
          && ownGlobals <= GLOBALS - globalCount
          && references <= referencesLeft;
    }

    private static long leastInAll(Module plan, int kind) {
      long sum = 0;
      for (int i = plan.imported(kind); i < plan.count(kind); i++) sum += plan.of(kind, i, Module.LEAST);
      return sum;
    }

    /** Makes an instance, with nothing copied yet from its segments; it was not refused. */
    Instance create(Module plan, int[] offers, int offered) {
      Instance made = new Instance(plan);
      if (instanceCount < instances.length) instances[instanceCount] = made;
      instanceCount++;
      int[] filled = new int[4];
      for (int i = 0; i < offered; i++) {
        int kind = (int) item(plan.imports, i * Module.ENTRY + Module.KIND);
        int type = (int) item(plan.imports, i * Module.ENTRY + Module.TYPE);
        int number = item(offers, 2 * i + 1);
        if (item(offers, 2 * i) == HOST) number = addFunction(nowhere, new Body(plan.shape(type), 0), number);
        setItem(made.numbers(kind), item(filled, kind), number);
        setItem(filled, kind, item(filled, kind) + 1);
      }
      for (int i = 0; i < plan.codes.length; i++) {
        setItem(made.functions, filled[0] + i, addFunction(made, plan.codes[i], -1));
      }
      for (int i = filled[1]; i < made.tables.length; i++) {
        int type = (int) plan.of(1, i, Module.TYPE);
        made.tables[i] = tables.create(type, plan.of(1, i, Module.LEAST), plan.of(1, i, Module.GREATEST));
      }
      for (int i = filled[2]; i < made.memories.length; i++) {
        made.memories[i] = memories.create(plan.of(2, i, Module.LEAST), plan.of(2, i, Module.GREATEST));
      }
      for (int i = filled[3]; i < made.globals.length; i++) made.globals[i] = addGlobal(made, i);
      for (int i = 0; i < made.elements.length; i++) fillElement(made, i);
      for (int i = 0; i < made.dataSizes.length; i++) {
        made.dataSizes[i] = item(plan.data, i * Module.SEGMENT + Module.COUNT);
      }
      return made;
    }

    private int addFunction(Instance home, Body body, int host) {
      int number = functionCount;
      if (number >= FUNCTIONS) return 0;
      bodies[number] = body;
      homes[number] = home;
      hosts[number] = host;
      functionCount++;
      return number;
    }

    private int addGlobal(Instance made, int i) {
      int number = globalCount;
      if (number >= GLOBALS) return 0;
      globalTypes[number] = (int) made.plan.of(3, i, Module.TYPE);
      globalChanges[number] = made.plan.of(3, i, Module.CHANGES) == 1;
      in.open(made.plan, (int) made.plan.of(3, i, Module.EXPRESSION));
      globalBits[number] = constant(made);
      globalCount++;
      return number;
    }

    private void fillElement(Instance made, int i) {
      int entry = i * Module.SEGMENT;
      int count = item(made.plan.elements, entry + Module.COUNT);
      boolean byExpressions = item(made.plan.elements, entry + Module.BY_EXPRESSIONS) != 0;
      if (count < 0 || count > referencesLeft || i < 0 || i >= made.elements.length) return;
      int[] references = new int[count];
      in.open(made.plan, item(made.plan.elements, entry + Module.ITEMS_AT));
      for (int j = 0; j < count; j++) {
        references[j] = byExpressions ? (int) constant(made)
            : item(made.functions, index(in.number(Reader.U32)));
      }
      made.elements[i] = references;
      setItem(made.elementSizes, i, count);
      referencesLeft -= count;
    }

    /** What the expression gives at which the reader stands, which is left behind it: it has one value. */
    private long constant(Instance made) {
      in.instruction();
      int op = in.op;
      int i = index(in.first);
      long bits = in.first;
      in.instruction();
      if (op == 208) return -1;
      if (op == 210) return item(made.functions, i);
      return op == 35 ? item(globalBits, item(made.globals, i)) : bits;
    }

    /** Copies the ACTIVE segments of an instance: the TRAP that ends it, or 0. */
    int fillSegments(Instance made) {
      Module plan = made.plan;
      for (int i = 0; i < made.elements.length; i++) {
        int entry = i * Module.SEGMENT;
        int mode = item(plan.elements, entry + Module.MODE);
        if (mode == ACTIVE) {
          in.open(plan, item(plan.elements, entry + Module.PLACE_AT));
          int table = item(plan.elements, entry + Module.SPACE);
          perform(made, 312, i, table, constant(made), 0, item(made.elementSizes, i));
          if (trap != 0) return trap;
        }
        if (mode != PASSIVE) setItem(made.elementSizes, i, 0);
      }
      for (int i = 0; i < made.dataSizes.length; i++) {
        int entry = i * Module.SEGMENT;
        if (item(plan.data, entry + Module.MODE) != ACTIVE) continue;
        in.open(plan, item(plan.data, entry + Module.PLACE_AT));
        perform(made, 308, i, 0, constant(made), 0, item(made.dataSizes, i));
        if (trap != 0) return trap;
        setItem(made.dataSizes, i, 0);
      }
      return 0;
    }

    /**
     * Does an instruction that is neither about the frame nor about where it goes on: x, y, z are
     * the values that it takes, the top one last. A trap is told in trap, which is 0 without one.
     */
    long perform(Instance home, int op, int a, int b, long x, long y, long z) {
      trap = 0;
      if (op >= 69 && op < 208) {
        long result = numbers.apply(op, x, y);
        trap = numbers.trap;
        return result;
      }
      if (op >= 40 && op <= 64) return atMemory(item(home.memories, 0), op, b, x, y);
      if (op >= 308 && op <= 311) return alongMemory(home, op, a, x, y, z);
      if (op >= 312) return alongTable(home, op, a, b, x, y, z);
      switch (op) {
        case 0:
          trap = UNREACHABLE;
          return 0;
        case 27: case 28: return z != 0 ? x : y;
        case 35: return item(globalBits, item(home.globals, a));
        case 36:
          setItem(globalBits, item(home.globals, a), x);
          return 0;
        case 37: case 38: return atTable(item(home.tables, a), op, x, y);
        case 209: return x == -1 ? 1 : 0;
        case 210: return item(home.functions, a);
        default: return 0;
      }
    }

    private long atMemory(int number, int op, int offset, long x, long y) {
      if (op == 63) return item(memories.sizes, number);
      if (op == 64) return memories.grow(number, x) & LOW32;
      long at = x + (offset & LOW32);
      if (!memories.reaches(number, at, 1L << Memories.logOfWidth(op))) {
        trap = BEYOND_MEMORY;
        return 0;
      }
      if (op < 54) return memories.load(number, op, at);
      memories.save(number, op, at, y);
      return 0;
    }

    private long alongMemory(Instance home, int op, int a, long x, long y, long z) {
      int number = item(home.memories, 0);
      if (op == 309) {
        setItem(home.dataSizes, a, 0);
        return 0;
      }
      boolean isThere = memories.reaches(number, x, z);
      if (op == 308 && y + z > item(home.dataSizes, a)) isThere = false;
      if (op == 310 && !memories.reaches(number, y, z)) isThere = false;
      if (!isThere) {
        trap = BEYOND_MEMORY;
        return 0;
      }
      if (op == 310) memories.copy(number, x, y, z);
      if (op == 311) memories.fill(number, x, (int) y, z);
      if (op == 308) {
        byte[] bytes = home.plan.bytes;
        long from = item(home.plan.data, a * Module.SEGMENT + Module.ITEMS_AT) + y;
        for (long i = 0; i < z && from >= 0 && from + i < bytes.length; i++) {
          memories.setByte(number, x + i, bytes[(int) (from + i)]);
        }
      }
      return 0;
    }

    private long atTable(int number, int op, long x, long y) {
      if (!tables.reaches(number, x, 1)) {
        trap = BEYOND_TABLE;
        return 0;
      }
      if (op == 37) return tables.entry(number, x);
      tables.setEntry(number, x, (int) y);
      return 0;
    }

    private long alongTable(Instance home, int op, int a, int b, long x, long y, long z) {
      if (op == 313) {
        setItem(home.elementSizes, a, 0);
        return 0;
      }
      int number = item(home.tables, op == 312 ? b : a);
      int other = item(home.tables, b);
      if (op == 315) return tables.grow(number, y, (int) x) & LOW32;
      if (op == 316) return item(tables.sizes, number);
      boolean isThere = tables.reaches(number, x, z);
      if (op == 312 && y + z > item(home.elementSizes, a)) isThere = false;
      if (op == 314 && !tables.reaches(other, y, z)) isThere = false;
      if (!isThere) {
        trap = BEYOND_TABLE;
        return 0;
      }
      if (op == 312 && a >= 0 && a < home.elements.length) tables.copyFrom(home.elements[a], number, x, y, z);
      if (op == 314) tables.copy(number, other, x, y, z);
      if (op == 317) tables.fill(number, x, (int) y, z);
      return 0;
    }
  }

  /**
   * Makes code for registers out of flattened code. The registers of a frame are its locals and,
   * behind them, a slot for each operand; below 0 they are constants. An instruction that only
   * brings a local or a constant becomes no row: its value is held back and taken where it is
   * wanted, and the row that comes next is as much heavier. What can be seen from outside is
   * always the last step of its row, so a run can stop inside a row and nobody sees it.
   */
  private static final class Compiler {
    static final int ROW = 8;
    static final int OP = 0;
    static final int WEIGHT = 1;
    static final int TO = 2;
    static final int FROM = 3;
    static final int SECOND = 4;
    static final int THIRD = 5;
    static final int A = 6;
    static final int B = 7;
    static final int MOVE = 500;
    static final int NOTHING = 1;
    private static final int MOST_ROWS = 32768;

    private int left = MOST_ROWS;
    private Body body;
    private int slots;
    private int[] out = new int[0];
    private int size;
    private boolean isFull;
    private long[] constants = new long[0];
    private int constantCount;
    private int[] places = new int[0];
    private boolean[] isTarget = new boolean[0];
    private final int[] held = new int[1001];
    private int owed;
    private boolean isReached;

    Compiler(Body nothing) {
      body = nothing;
    }

    /** Without room for it, the body stays without code for registers. */
    void compile(Body next) {
      next.isCompiled = true;
      int most = 3 * next.rows + 2;
      if (most > left) return;
      body = next;
      slots = next.slots;
      out = new int[most * ROW];
      constants = new long[next.rows];
      places = new int[next.rows];
      isTarget = new boolean[next.rows];
      size = 0;
      constantCount = 0;
      owed = 0;
      isFull = false;
      isReached = false;
      markTargets();
      for (int i = 0; i < next.rows; i++) i += translate(i);
      if (isFull) return;
      aimBranches();
      left -= size;
      next.registers = Arrays.copyOf(out, size * ROW);
      next.constants = Arrays.copyOf(constants, constantCount);
    }

    private static boolean isBranch(int op) {
      return op == 4 || op == 5 || op == 12 || op == 13;
    }

    private void markTargets() {
      for (int i = 0; i < body.rows; i++) {
        int target = body.of(i, Body.A);
        if (isBranch(body.of(i, Body.OP)) && target >= 0 && target < isTarget.length) isTarget[target] = true;
      }
    }

    private void aimBranches() {
      for (int at = 0; at < size * ROW; at += ROW) {
        if (isBranch(item(out, at + OP))) setItem(out, at + A, item(places, item(out, at + A)));
      }
    }

    /** A row that takes over the steps that were held back. */
    private int emit(int op, int cost) {
      int at = size * ROW;
      if (at > out.length - ROW) {
        isFull = true;
        return out.length;
      }
      out[at + OP] = op;
      out[at + WEIGHT] = owed + cost;
      owed = 0;
      size++;
      return at;
    }

    private void emitMove(int to, int from, int cost) {
      int at = emit(MOVE, cost);
      setItem(out, at + TO, to);
      setItem(out, at + FROM, from);
    }

    /** Puts what is held back of the lowest operands into their own slots. */
    private void own(int height) {
      for (int p = 0; p < height && p < held.length; p++) {
        if (held[p] != slots + p) emitMove(slots + p, held[p], 0);
        held[p] = slots + p;
      }
    }

    private int heldAt(int p) {
      return item(held, p);
    }

    /** Translates a row of flattened code: how many rows behind it belong to it. */
    private int translate(int i) {
      int op = body.of(i, Body.OP);
      int a = body.of(i, Body.A);
      int height = body.of(i, Body.HEIGHT);
      if (!isReached) {
        ownUnseen(height);
      } else if (i < isTarget.length && isTarget[i]) {
        // Where several ways meet, all operands are in their own slots, and no step is held back.
        own(height);
        if (owed > 0) emit(NOTHING, 0);
      }
      setItem(places, i, size);
      own(ownedFor(op, height));
      switch (op) {
        case 1: case 26: owed++; break;
        case 4: condition(a, height); break;
        case 5: case 11:
          setItem(out, emit(op, 0) + A, a);
          isReached = false;
          break;
        case 12:
          branch(i, 1, height);
          isReached = false;
          break;
        case 13: setItem(out, branch(i, 1, height - 1) + SECOND, heldAt(height - 1)); break;
        case 14: branchByTable(i, a, height); return a + 1;
        case 16: case 17: calling(i, op, height); break;
        case 32: hold(height, a); break;
        case 33: case 34: setLocal(a, height); break;
        case 65: holdConstant(i, height); break;
        default: plain(i, op, height);
      }
      return 0;
    }

    /** How many operands must be in their own slots ahead of what goes on elsewhere. */
    private static int ownedFor(int op, int height) {
      if (op == 4 || op == 13 || op == 14 || op == 17) return height - 1;
      return op == 5 || op == 11 || op == 12 || op == 16 ? height : 0;
    }

    /** Behind what never goes on, operands are where those that come here from elsewhere put them. */
    private void ownUnseen(int height) {
      for (int p = 0; p < height && p < held.length; p++) held[p] = slots + p;
      owed = 0;
      isReached = true;
    }

    private void hold(int height, int register) {
      setItem(held, height, register);
      owed++;
    }

    private void holdConstant(int i, int height) {
      setItem(constants, constantCount, body.of(i, Body.A) & LOW32 | (long) body.of(i, Body.B) << 32);
      constantCount++;
      hold(height, -constantCount);
    }

    private void setLocal(int local, int height) {
      int from = heldAt(height - 1);
      for (int p = 0; p < height - 1 && p < held.length; p++) {
        if (held[p] != local) continue;
        emitMove(slots + p, local, 0);
        held[p] = slots + p;
      }
      if (from == local) owed++;
      else emitMove(local, from, 1);
    }

    private void condition(int target, int height) {
      int at = emit(4, 1);
      setItem(out, at + FROM, heldAt(height - 1));
      setItem(out, at + A, target);
    }

    private int branch(int i, int cost, int height) {
      int at = emit(body.of(i, Body.OP), cost);
      int count = body.of(i, Body.B);
      setItem(out, at + TO, slots + body.of(i, Body.C));
      setItem(out, at + FROM, slots + height - count);
      setItem(out, at + A, body.of(i, Body.A));
      setItem(out, at + B, count);
      return at;
    }

    private void branchByTable(int i, int count, int height) {
      int at = emit(14, 1);
      setItem(out, at + FROM, heldAt(height - 1));
      setItem(out, at + A, count);
      for (int k = 0; k <= count; k++) branch(i + 1 + k, 0, height - 1);
      isReached = false;
    }

    private void calling(int i, int op, int height) {
      int top = op == 17 ? height - 1 : height;
      int first = top - body.of(i, Body.C);
      int at = emit(op, 1);
      setItem(out, at + TO, slots + first);
      setItem(out, at + FROM, heldAt(height - 1));
      setItem(out, at + A, body.of(i, Body.A));
      setItem(out, at + B, body.of(i, Body.B));
      int after = body.of(i + 1, Body.HEIGHT);
      for (int p = first; p < after; p++) setItem(held, p, slots + p);
    }

    private void plain(int i, int op, int height) {
      int c = body.of(i, Body.C);
      int first = height - (c >> 1);
      int at = emit(op, 1);
      boolean puts = (c & 1) != 0;
      setItem(out, at + TO, puts ? slots + first : -1);
      for (int k = 0; k < c >> 1; k++) setItem(out, at + FROM + k, heldAt(first + k));
      setItem(out, at + A, body.of(i, Body.A));
      setItem(out, at + B, body.of(i, Body.B));
      if (puts) setItem(held, first, slots + first);
      if (op == 0) isReached = false;
    }
  }

  /** A function of a module that runs. */
  private static final class Frame {
    Instance home;
    Body body;
    int[] code;
    int row;
    int base;
    int top;
    boolean isFresh;
    boolean isOnRegisters;

    Frame(Instance nowhere, Body nothing) {
      home = nowhere;
      body = nothing;
      code = nothing.code;
    }
  }

  /** Part V: frames and their values, and the two machines that run them. */
  private static final class Machine {
    static final int RUNS = 1;
    static final int ENDED = 2;
    static final int TRAPPED = 3;
    static final int EXHAUSTED = 4;
    static final int ASKS = 5;
    static final int GIVEN_UP = 6;
    private static final int FRAMES = 200;
    private static final int VALUES = 4096;
    private static final int MANY = 1000000;
    private static final int BEYOND_CALL_TABLE = 7;
    private static final int CALL_OF_NONE = 8;
    private static final int OTHER_SHAPE = 9;

    int state;
    int trap;
    int steps;
    int depth;
    int asked;
    int tier;
    final long[] told = new long[ARGUMENTS];
    int toldCount;
    private final Store store;
    private final Compiler compiler;
    private final long[] values = new long[VALUES];
    private final Frame[] frames = new Frame[FRAMES];
    private Frame frame;
    private int used;
    // Steps that were done of a row of code for registers, before all of it could be.
    private int paid;

    Machine(Store store) {
      this.store = store;
      Body nothing = new Body(new int[2], 0);
      compiler = new Compiler(nothing);
      for (int i = 0; i < frames.length; i++) frames[i] = new Frame(store.instanceAt(-1), nothing);
      frame = frames[0];
    }

    boolean isBusy() {
      return state == RUNS || state == ASKS;
    }

    private void clearFrames() {
      depth = 0;
      used = 0;
      paid = 0;
    }

    void stop(int why) {
      clearFrames();
      state = why;
    }

    private void fail(int what) {
      trap = what;
      stop(TRAPPED);
    }

    void failAtMaking(int what) {
      steps = 0;
      fail(what);
    }

    /** Calls a function from outside. */
    void begin(int function, long[] given, int count) {
      clearFrames();
      state = RUNS;
      steps = 0;
      int[] shape = store.shapeOf(function);
      for (int i = 0; i < count; i++) setItem(values, i, toldBits(item(shape, 2 + i), item(given, i)));
      enter(function, 0);
      settle();
    }

    private static long toldBits(int type, long bits) {
      return type == I32 || type == F32 ? bits & LOW32 : bits;
    }

    /** Goes on with what HOST answers. */
    void goOn(long[] given, int count) {
      int[] shape = store.shapeOf(asked);
      int from = 2 + item(shape, 0);
      for (int i = 0; i < count; i++) setItem(told, i, toldBits(item(shape, from + i), item(given, i)));
      toldCount = count;
      if (depth == 0) {
        stop(ENDED);
        return;
      }
      for (int i = 0; i < count; i++) setItem(values, frame.top + i, item(told, i));
      frame.top += count;
      state = RUNS;
      settle();
    }

    int advance(int n) {
      int done = 0;
      for (int i = 0; i < n && done < n && state == RUNS; i++) {
        if (!frame.isOnRegisters) {
          stepOnStack();
          done++;
        } else {
          int at = frame.row * Compiler.ROW;
          int weight = item(frame.code, at + Compiler.WEIGHT) - paid;
          int most = Math.min(weight, n - done);
          paid = most < weight ? paid + most : 0;
          if (most == weight) stepOnRegisters(at);
          done += most;
        }
        settle();
      }
      steps += done;
      return done;
    }

    /** Does what is no step: ends of functions, jumps over an else, moves between registers. */
    private void settle() {
      for (int i = 0; i < MANY && state == RUNS; i++) {
        if (frame.isFresh) {
          if (frame.isOnRegisters && !frame.body.isCompiled) compiler.compile(frame.body);
          chooseCode();
        }
        if (frame.isOnRegisters) {
          int at = frame.row * Compiler.ROW;
          if (item(frame.code, at + Compiler.WEIGHT) != 0) return;
          frame.row++;
          goFreely(at);
        } else {
          int op = item(frame.code, frame.row * Body.ROW);
          if (op == 5) frame.row = item(frame.code, frame.row * Body.ROW + Body.A);
          else if (op == 11) leave();
          else return;
        }
      }
    }

    private void chooseCode() {
      frame.isFresh = false;
      frame.isOnRegisters = frame.isOnRegisters && frame.body.registers.length > 0;
      if (frame.isOnRegisters) frame.code = frame.body.registers;
    }

    /** Calls a function whose arguments stand among the values from a place on; the caller's top is there. */
    private void enter(int function, int from) {
      Body body = store.bodyOf(function);
      int parameters = item(body.shape, 0);
      if (store.hostNumber(function) >= 0) {
        tell(from, parameters);
        asked = function;
        state = ASKS;
        return;
      }
      int end = used + body.slots + body.operands;
      if (depth < 0 || depth >= FRAMES || end > VALUES) {
        stop(EXHAUSTED);
        return;
      }
      frame = frames[depth];
      depth++;
      frame.home = store.homeOf(function);
      frame.body = body;
      frame.code = body.code;
      frame.row = 0;
      frame.base = used;
      frame.top = used + body.slots;
      frame.isFresh = true;
      frame.isOnRegisters = store.countFrame(function, tier);
      move(values, from, used, parameters);
      clearLocals(body, parameters);
      used = end;
    }

    private void clearLocals(Body body, int parameters) {
      int first = frame.base + parameters;
      for (int i = first; i < frame.top; i++) setItem(values, i, 0);
      for (int i = 0; i + 1 < body.references.length; i += 2) {
        for (int k = body.references[i]; k < body.references[i + 1]; k++) setItem(values, frame.base + k, -1);
      }
    }

    private void tell(int from, int count) {
      toldCount = count;
      for (int i = 0; i < count; i++) setItem(told, i, item(values, from + i));
    }

    /** Ends the function of the innermost frame: its results are its lowest operands. */
    private void leave() {
      int from = frame.base + frame.body.slots;
      int count = item(frame.body.shape, 1);
      depth--;
      used = frame.base;
      if (depth <= 0 || depth > FRAMES) {
        tell(from, count);
        stop(ENDED);
        return;
      }
      frame = frames[depth - 1];
      move(values, from, frame.top, count);
      frame.top += count;
    }

    private void callByTable(int type, int table, long i, int from) {
      int number = item(frame.home.tables, table);
      if (!store.tables.reaches(number, i, 1)) {
        fail(BEYOND_CALL_TABLE);
        return;
      }
      int function = store.tables.entry(number, i);
      if (function < 0) fail(CALL_OF_NONE);
      else if (!Store.isSameShape(store.shapeOf(function), frame.home.plan.shape(type))) fail(OTHER_SHAPE);
      else enter(function, from);
    }

    // The machine over flattened code: values come from the top of the frame's stack, and go there.

    private long pop() {
      frame.top--;
      return item(values, frame.top);
    }

    private void push(long bits) {
      setItem(values, frame.top, bits);
      frame.top++;
    }

    private void stepOnStack() {
      int at = frame.row * Body.ROW;
      int op = item(frame.code, at);
      int a = item(frame.code, at + Body.A);
      int b = item(frame.code, at + Body.B);
      int c = item(frame.code, at + Body.C);
      frame.row++;
      switch (op) {
        case 4:
          if (pop() == 0) frame.row = a;
          break;
        case 12: branchOnStack(at); break;
        case 13:
          if (pop() != 0) branchOnStack(at);
          break;
        case 14: branchOnStack(at + Body.ROW * (1 + (int) Math.min(pop(), a))); break;
        case 16:
          frame.top -= c;
          enter(item(frame.home.functions, a), frame.top);
          break;
        case 17:
          long i = pop();
          frame.top -= c;
          callByTable(a, b, i, frame.top);
          break;
        case 32: push(item(values, frame.base + a)); break;
        case 33: setItem(values, frame.base + a, pop()); break;
        case 34: setItem(values, frame.base + a, item(values, frame.top - 1)); break;
        case 65: push(a & LOW32 | (long) b << 32); break;
        default:
          int takes = c >> 1;
          frame.top -= takes;
          long x = takes > 0 ? item(values, frame.top) : 0;
          long y = takes > 1 ? item(values, frame.top + 1) : 0;
          long z = takes > 2 ? item(values, frame.top + 2) : 0;
          long result = store.perform(frame.home, op, a, b, x, y, z);
          if (store.trap != 0) fail(store.trap);
          else if ((c & 1) != 0) push(result);
      }
    }

    private void branchOnStack(int at) {
      int count = item(frame.code, at + Body.B);
      int to = frame.base + frame.body.slots + item(frame.code, at + Body.C);
      move(values, frame.top - count, to, count);
      frame.top = to + count;
      frame.row = item(frame.code, at + Body.A);
    }

    // The machine over registers.

    private long register(int r) {
      return r >= 0 ? item(values, frame.base + r) : item(frame.body.constants, -1 - r);
    }

    /** Does what has no step of its own, though it may stand for steps that were held back. */
    private void goFreely(int at) {
      int op = item(frame.code, at + Compiler.OP);
      if (op == 11) leave();
      else if (op == 5) frame.row = item(frame.code, at + Compiler.A);
      else if (op == Compiler.MOVE) {
        int to = frame.base + item(frame.code, at + Compiler.TO);
        setItem(values, to, register(item(frame.code, at + Compiler.FROM)));
      }
    }

    private void stepOnRegisters(int at) {
      int[] code = frame.code;
      int op = item(code, at + Compiler.OP);
      int a = item(code, at + Compiler.A);
      int b = item(code, at + Compiler.B);
      int from = item(code, at + Compiler.FROM);
      int second = item(code, at + Compiler.SECOND);
      int to = item(code, at + Compiler.TO);
      frame.row++;
      switch (op) {
        case Compiler.NOTHING: case Compiler.MOVE: case 5: case 11: goFreely(at); break;
        case 4:
          if (register(from) == 0) frame.row = a;
          break;
        case 12: branchOnRegisters(at); break;
        case 13:
          if (register(second) != 0) branchOnRegisters(at);
          break;
        case 14: branchOnRegisters(at + Compiler.ROW * (1 + (int) Math.min(register(from), a))); break;
        case 16:
          frame.top = frame.base + to;
          enter(item(frame.home.functions, a), frame.top);
          break;
        case 17:
          frame.top = frame.base + to;
          callByTable(a, b, register(from), frame.top);
          break;
        default:
          long z = register(item(code, at + Compiler.THIRD));
          long result = store.perform(frame.home, op, a, b, register(from), register(second), z);
          if (store.trap != 0) fail(store.trap);
          else if (to >= 0) setItem(values, frame.base + to, result);
      }
    }

    private void branchOnRegisters(int at) {
      int from = frame.base + item(frame.code, at + Compiler.FROM);
      int to = frame.base + item(frame.code, at + Compiler.TO);
      move(values, from, to, item(frame.code, at + Compiler.B));
      frame.row = item(frame.code, at + Compiler.A);
    }
  }
}
