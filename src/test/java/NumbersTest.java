import java.math.BigDecimal;
import java.math.BigInteger;
import java.util.Random;

/** Part III: the operators, against Java's own numbers, at their edges and at many others. */
final class NumbersTest {
  private static final long LOW = 4294967295L;
  private static final int[] OPERATORS = operators();
  private static final long[] EDGES32 = {0, 1, 2, 31, 32, 0x7fffffffL, 0x80000000L, 0xffffffffL, 0xfffffffeL, 0x7f800000L, 0xff800000L,
      0x7fc00000L, 0x7f800001L, 0xffc00001L, 0x00800000L, 0x007fffffL, 0x80000001L, 0x7f7fffffL, 0xff7fffffL, 0x3f800000L,
      0xbf800000L, 0x3f000000L, 0xbf000000L, 0x40200000L, 0x3fc00000L, 0x4f000000L, 0xcf000000L, 0xcf000001L, 0x4f800000L,
      0x5f000000L, 0xdf000000L, 0x5f800000L, 0xbf7fffffL, 0x4b000001L, 0x34000000L};
  private static final long[] EDGES64 = {0, 1, 2, 63, 64, Long.MAX_VALUE, Long.MIN_VALUE, -1, -2, 0x7ff0000000000000L,
      0xfff0000000000000L, 0x7ff8000000000000L, 0x7ff0000000000001L, 0xfff8000000000001L, 0x0010000000000000L,
      0x000fffffffffffffL, 0x8000000000000001L, 0x7fefffffffffffffL, 0xffefffffffffffffL, 0x3ff0000000000000L,
      0xbff0000000000000L, 0x3fe0000000000000L, 0xbfe0000000000000L, 0x4004000000000000L, 0x3ff8000000000000L,
      0x41e0000000000000L, 0xc1e0000000000000L, 0xc1e0000000200000L, 0xc1e00000001fffffL, 0x41f0000000000000L,
      0x41efffffffffffffL, 0x43e0000000000000L, 0xc3e0000000000000L, 0x43f0000000000000L, 0xbfefffffffffffffL,
      0x36a0000000000000L, 0x3690000000000000L, 0x3690000000000001L, 0x47efffffe0000000L, 0x47effffff0000000L,
      0x47efffffefffffffL, 0x9007199254740993L};
  private static final Random RANDOM = new Random(20);

  public static void main(String[] args) {
    ModuleEngine x = null;
    int at = 0;
    // Sixty functions a module, each an operator; all of them are called on edges and on others.
    for (int from = 0; from < OPERATORS.length; from += 60) {
      int to = Math.min(from + 60, OPERATORS.length);
      x = Write.made(module(from, to));
      for (int i = from; i < to; i++) look(x, i - from, OPERATORS[i]);
      at = to;
    }
    Due.is("operators", at, 136);
    Due.end();
  }

  private static int[] operators() {
    int[] out = new int[136];
    for (int i = 0; i < 128; i++) out[i] = 69 + i;
    for (int i = 0; i < 8; i++) out[128 + i] = 200 + i;
    return out;
  }

  private static byte[] module(int from, int to) {
    byte[][] types = new byte[to - from][];
    byte[][] functions = new byte[to - from][];
    byte[][] exports = new byte[to - from][];
    byte[][] bodies = new byte[to - from][];
    for (int i = from; i < to; i++) {
      int op = OPERATORS[i];
      int type = 127 - operand(op);
      types[i - from] = Write.type(isBinary(op) ? Write.types(type, type) : Write.types(type), 127 - result(op));
      functions[i - from] = Write.u(i - from);
      exports[i - from] = Write.export("f" + i, 0, i - from);
      byte[] code = op < 200 ? Write.join(op) : Write.join(252, op - 200);
      bodies[i - from] = isBinary(op) ? Write.body(32, 0, 32, 1, code) : Write.body(32, 0, code);
    }
    return Write.module(Write.rows(1, types), Write.rows(3, functions), Write.rows(7, exports), Write.rows(10, bodies));
  }

  private static void look(ModuleEngine x, int export, int op) {
    boolean isSmall = operand(op) % 2 == 0;
    long[] edges = isSmall ? EDGES32 : EDGES64;
    for (long a : edges) {
      if (!isBinary(op)) one(x, export, op, a, 0);
      else for (long b : edges) one(x, export, op, a, b);
    }
    for (int i = 0; i < 300; i++) one(x, export, op, any(isSmall), any(isSmall));
  }

  private static long any(boolean isSmall) {
    long bits = RANDOM.nextLong() >> RANDOM.nextInt(64);
    if (RANDOM.nextInt(3) == 0) bits = Double.doubleToRawLongBits(RANDOM.nextGaussian() * (1L << RANDOM.nextInt(40)));
    if (!isSmall) return bits;
    if (RANDOM.nextInt(3) == 0) bits = Float.floatToRawIntBits((float) (RANDOM.nextGaussian() * (1L << RANDOM.nextInt(40))));
    return bits & LOW;
  }

  private static void one(ModuleEngine x, int export, int op, long a, long b) {
    x.argument(a);
    if (isBinary(op)) x.argument(b);
    x.call(0, export);
    int steps = isBinary(op) ? 3 : 2;
    String what = "operator " + op + " of " + Long.toHexString(a) + " and " + Long.toHexString(b);
    if (x.run(9) != steps) Due.is(what + ": steps", x.state(2), steps);
    trap = 0;
    long due = due(op, a, b);
    Due.is(what + ": state", x.state(0), trap == 0 ? 2 : 3);
    if (trap != 0) Due.is(what + ": trap", x.state(1), trap);
    Due.is(what, x.value(0), trap == 0 ? due : 0);
  }

  private static int trap;

  private static final int[][] CONVERSIONS = {{1, 0}, {2, 0}, {2, 0}, {3, 0}, {3, 0}, {0, 1}, {0, 1}, {2, 1}, {2, 1}, {3, 1}, {3, 1},
      {0, 2}, {0, 2}, {1, 2}, {1, 2}, {3, 2}, {0, 3}, {0, 3}, {1, 3}, {1, 3}, {2, 3}, {2, 0}, {3, 1}, {0, 2}, {1, 3}, {0, 0}, {0, 0},
      {1, 1}, {1, 1}, {1, 1}};

  private static int operand(int op) {
    if (op >= 200) return new int[] {2, 2, 3, 3, 2, 2, 3, 3}[op - 200];
    if (op >= 167) return CONVERSIONS[op - 167][0];
    if (op >= 103) return op < 121 ? 0 : op < 139 ? 1 : op < 153 ? 2 : 3;
    return op < 80 ? 0 : op < 91 ? 1 : op < 97 ? 2 : 3;
  }

  private static int result(int op) {
    if (op >= 200) return op < 204 ? 0 : 1;
    if (op >= 167) return CONVERSIONS[op - 167][1];
    return op >= 103 ? operand(op) : 0;
  }

  private static boolean isBinary(int op) {
    if (op < 103) return op != 69 && op != 80;
    if (op < 139) return (op - 103) % 18 > 2;
    return op < 167 && (op - 139) % 14 > 6;
  }

  private static long due(int op, long a, long b) {
    if (op < 80) return compare(op - 69, Integer.compare((int) a, (int) b), Long.compare(a, b), (int) a);
    if (op < 91) return compare(op - 80, Long.compare(a, b), Long.compareUnsigned(a, b), a);
    if (op < 97) return compare(op - 91, Float.intBitsToFloat((int) a), Float.intBitsToFloat((int) b));
    if (op < 103) return compare(op - 97, Double.longBitsToDouble(a), Double.longBitsToDouble(b));
    if (op < 121) return whole32(op - 103, (int) a, (int) b) & LOW;
    if (op < 139) return whole64(op - 121, a, b);
    if (op < 153) return floating32(op - 139, a, b);
    if (op < 167) return floating64(op - 153, a, b);
    return convert(op, a);
  }

  private static long compare(int which, int signed, int unsigned, long a) {
    boolean[] is = {a == 0, signed == 0, signed != 0, signed < 0, unsigned < 0, signed > 0, unsigned > 0, signed <= 0,
        unsigned <= 0, signed >= 0, unsigned >= 0};
    return is[which] ? 1 : 0;
  }

  private static long compare(int which, double a, double b) {
    boolean[] is = {a == b, a != b, a < b, a > b, a <= b, a >= b};
    return is[which] ? 1 : 0;
  }

  private static long whole32(int which, int a, int b) {
    if (which >= 6 && which <= 9 && b == 0) trap = 2;
    if (which == 6 && a == Integer.MIN_VALUE && b == -1) trap = 3;
    if (trap != 0) return 0;
    switch (which) {
      case 0: return Integer.numberOfLeadingZeros(a);
      case 1: return Integer.numberOfTrailingZeros(a);
      case 2: return Integer.bitCount(a);
      case 3: return a + b;
      case 4: return a - b;
      case 5: return a * b;
      case 6: return a / b;
      case 7: return Integer.divideUnsigned(a, b);
      case 8: return a % b;
      case 9: return Integer.remainderUnsigned(a, b);
      case 10: return a & b;
      case 11: return a | b;
      case 12: return a ^ b;
      case 13: return a << b;
      case 14: return a >> b;
      case 15: return a >>> b;
      case 16: return Integer.rotateLeft(a, b);
      default: return Integer.rotateRight(a, b);
    }
  }

  private static long whole64(int which, long a, long b) {
    if (which >= 6 && which <= 9 && b == 0) trap = 2;
    if (which == 6 && a == Long.MIN_VALUE && b == -1) trap = 3;
    if (trap != 0) return 0;
    switch (which) {
      case 0: return Long.numberOfLeadingZeros(a);
      case 1: return Long.numberOfTrailingZeros(a);
      case 2: return Long.bitCount(a);
      case 3: return a + b;
      case 4: return a - b;
      case 5: return a * b;
      case 6: return a / b;
      case 7: return Long.divideUnsigned(a, b);
      case 8: return a % b;
      case 9: return Long.remainderUnsigned(a, b);
      case 10: return a & b;
      case 11: return a | b;
      case 12: return a ^ b;
      case 13: return a << b;
      case 14: return a >> b;
      case 15: return a >>> b;
      case 16: return Long.rotateLeft(a, (int) b);
      default: return Long.rotateRight(a, (int) b);
    }
  }

  private static long bits(float x) {
    return Float.isNaN(x) ? 0x7fc00000L : Float.floatToRawIntBits(x) & LOW;
  }

  private static long bits(double x) {
    return Double.isNaN(x) ? 0x7ff8000000000000L : Double.doubleToRawLongBits(x);
  }

  private static double towardsZero(double x) {
    return x < 0 || 1 / x < 0 ? Math.ceil(x) : Math.floor(x);
  }

  private static long floating32(int which, long a, long b) {
    float x = Float.intBitsToFloat((int) a);
    float y = Float.intBitsToFloat((int) b);
    switch (which) {
      case 0: return a & 0x7fffffffL;
      case 1: return a ^ 0x80000000L;
      case 2: return bits((float) Math.ceil(x));
      case 3: return bits((float) Math.floor(x));
      case 4: return bits((float) towardsZero(x));
      case 5: return bits((float) Math.rint(x));
      case 6: return bits((float) Math.sqrt(x));
      case 7: return bits(x + y);
      case 8: return bits(x - y);
      case 9: return bits(x * y);
      case 10: return bits(x / y);
      case 11: return bits(Math.min(x, y));
      case 12: return bits(Math.max(x, y));
      default: return a & 0x7fffffffL | b & 0x80000000L;
    }
  }

  private static long floating64(int which, long a, long b) {
    double x = Double.longBitsToDouble(a);
    double y = Double.longBitsToDouble(b);
    switch (which) {
      case 0: return a & Long.MAX_VALUE;
      case 1: return a ^ Long.MIN_VALUE;
      case 2: return bits(Math.ceil(x));
      case 3: return bits(Math.floor(x));
      case 4: return bits(towardsZero(x));
      case 5: return bits(Math.rint(x));
      case 6: return bits(Math.sqrt(x));
      case 7: return bits(x + y);
      case 8: return bits(x - y);
      case 9: return bits(x * y);
      case 10: return bits(x / y);
      case 11: return bits(Math.min(x, y));
      case 12: return bits(Math.max(x, y));
      default: return a & Long.MAX_VALUE | b & Long.MIN_VALUE;
    }
  }

  private static long convert(int op, long a) {
    BigDecimal unsigned = new BigDecimal(new BigInteger(Long.toUnsignedString(a)));
    switch (op) {
      case 167: case 173: return a & LOW;
      case 172: case 196: return (int) a;
      case 178: return bits((float) (int) a);
      case 179: return bits((float) a);
      case 180: return bits((float) a);
      case 181: return bits(unsigned.floatValue());
      case 182: return bits((float) Double.longBitsToDouble(a));
      case 183: return bits((double) (int) a);
      case 184: return bits((double) a);
      case 185: return bits((double) a);
      case 186: return bits(unsigned.doubleValue());
      case 187: return bits((double) Float.intBitsToFloat((int) a));
      case 188: case 189: case 190: case 191: return a;
      case 192: return (byte) a & LOW;
      case 193: return (short) a & LOW;
      case 194: return (byte) a;
      case 195: return (short) a;
      default:
        double x = operand(op) == 2 ? Float.intBitsToFloat((int) a) : Double.longBitsToDouble(a);
        return whole(x, result(op) == 0 ? 32 : 64, op % 2 == 0, op >= 200);
    }
  }

  private static long whole(double x, int bits, boolean hasSign, boolean keeps) {
    if (Double.isNaN(x)) {
      trap = keeps ? 0 : 4;
      return 0;
    }
    BigInteger most = BigInteger.ONE.shiftLeft(hasSign ? bits - 1 : bits).subtract(BigInteger.ONE);
    BigInteger least = hasSign ? BigInteger.ONE.shiftLeft(bits - 1).negate() : BigInteger.ZERO;
    BigInteger whole = Double.isInfinite(x) ? BigInteger.ONE.shiftLeft(70).multiply(BigInteger.valueOf(x > 0 ? 1 : -1))
        : new BigDecimal(x).toBigInteger();
    boolean isThere = whole.compareTo(least) >= 0 && whole.compareTo(most) <= 0;
    if (!isThere && !keeps) trap = 3;
    return whole.max(least).min(most).longValue() & (bits == 32 ? LOW : -1);
  }
}
