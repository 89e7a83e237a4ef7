import java.math.BigInteger;
import java.util.Random;

/** Part III, 128 and 130: quotient and remainder of 64 bits without sign, on both machines. */
final class DivisionTest {
  private static final long HIGH = Long.MIN_VALUE;
  private static final long MOST = -1;

  /** x, y, the quotient, the remainder. */
  private static final long[][] ROWS = {
      // Both below the highest bit.
      {0, 1, 0, 0}, {7, 2, 3, 1}, {100, 10, 10, 0}, {Long.MAX_VALUE, Long.MAX_VALUE, 1, 0},
      {Long.MAX_VALUE, 2, 4611686018427387903L, 1}, {Long.MAX_VALUE, 3, 3074457345618258602L, 1},
      // x has its highest bit.
      {HIGH, 2, 4611686018427387904L, 0}, {HIGH, 3, 3074457345618258602L, 2}, {HIGH, Long.MAX_VALUE, 1, 1},
      {HIGH + 1, 2, 4611686018427387904L, 1}, {MOST, 2, Long.MAX_VALUE, 1}, {MOST, 3, 6148914691236517205L, 0},
      {MOST, 10, 1844674407370955161L, 5}, {-2, 10, 1844674407370955161L, 4}, {-7, 10, 1844674407370955160L, 9},
      {MOST, Long.MAX_VALUE, 2, 1}, {-2, Long.MAX_VALUE, 2, 0}, {-3, Long.MAX_VALUE, 1, 9223372036854775806L},
      {MOST, 4294967296L, 4294967295L, 4294967295L}, {MOST, 4294967295L, 4294967297L, 0},
      {MOST, 4611686018427387905L, 3, 4611686018427387900L}, {HIGH, 4611686018427387905L, 1, 4611686018427387903L},
      // y has its highest bit.
      {0, HIGH, 0, 0}, {1, MOST, 0, 1}, {Long.MAX_VALUE, HIGH, 0, Long.MAX_VALUE}, {Long.MAX_VALUE, MOST, 0, Long.MAX_VALUE},
      {5, -5, 0, 5},
      // Both have it.
      {HIGH, HIGH, 1, 0}, {MOST, MOST, 1, 0}, {MOST, HIGH, 1, Long.MAX_VALUE}, {HIGH, MOST, 0, HIGH},
      {HIGH + 1, HIGH, 1, 1}, {HIGH, HIGH + 1, 0, HIGH}, {-2, MOST, 0, -2}, {MOST, -2, 1, 1}, {-6, -5, 0, -6}, {-5, -6, 1, 1},
      // y is 1.
      {1, 1, 1, 0}, {Long.MAX_VALUE, 1, Long.MAX_VALUE, 0}, {HIGH, 1, HIGH, 0}, {HIGH + 1, 1, HIGH + 1, 0}, {MOST, 1, MOST, 0},
      // x is less than y.
      {0, 7, 0, 0}, {6, 7, 0, 6}, {4294967295L, 4294967296L, 0, 4294967295L}, {9223372036854775806L, Long.MAX_VALUE, 0, 9223372036854775806L},
  };
  private static final long[] BY_ZERO = {0, 1, Long.MAX_VALUE, HIGH, HIGH + 1, MOST};

  private static final int[] OPERATORS = {128, 130};
  // Nobody is promised an answer beyond 512 calls: six for each of these, and what makes them.
  private static final int PAIRS = 60;

  public static void main(String[] args) {
    for (int tier = 0; tier < 2; tier++) {
      for (int which = 0; which < 2; which++) {
        rows(tier, which);
        byZero(tier, which);
        for (int i = 0; i < 40; i++) others(tier, which, new Random(100 * tier + i));
      }
    }
    constants();
    Due.end();
  }

  private static ModuleEngine engine(int tier) {
    byte[] type = Write.type(Write.types(Write.I64, Write.I64), Write.I64);
    byte[] module = Write.module(Write.rows(1, type), Write.rows(3, Write.u(0), Write.u(0)),
        Write.rows(7, Write.export("quotient", 0, 0), Write.export("remainder", 0, 1)),
        Write.rows(10, Write.body(32, 0, 32, 1, OPERATORS[0]), Write.body(32, 0, 32, 1, OPERATORS[1])));
    ModuleEngine x = Write.made(module);
    x.tier(tier);
    return x;
  }

  private static String name(int tier, int which, long a, long b) {
    return "tier " + tier + ", operator " + OPERATORS[which] + " of " + Long.toUnsignedString(a) + " and " + Long.toUnsignedString(b);
  }

  private static void one(ModuleEngine x, int tier, int which, long[] row) {
    String what = name(tier, which, row[0], row[1]);
    Write.calls(x, which, row[0], row[1]);
    Due.is(what + ": steps", x.run(10), 3);
    Due.is(what + ": state", x.state(0), 2);
    Due.is(what, x.value(0), row[2 + which]);
  }

  private static void rows(int tier, int which) {
    ModuleEngine x = engine(tier);
    for (long[] row : ROWS) one(x, tier, which, row);
  }

  private static void byZero(int tier, int which) {
    ModuleEngine x = engine(tier);
    for (long a : BY_ZERO) {
      String what = name(tier, which, a, 0);
      Write.calls(x, which, a, 0);
      Due.is(what + ": steps", x.run(10), 3);
      Due.is(what + ": state", x.state(0), 3);
      Due.is(what + ": trap", x.state(1), 2);
      Due.is(what, x.value(0), 0);
    }
  }

  /** Numbers of all lengths, against numbers without bounds. */
  private static void others(int tier, int which, Random random) {
    ModuleEngine x = engine(tier);
    for (int i = 0; i < PAIRS; i++) {
      long a = random.nextLong() >>> random.nextInt(i % 3 == 0 ? 64 : 2);
      long b = random.nextLong() >>> random.nextInt(i % 2 == 0 ? 64 : 2);
      if (b == 0) continue;
      // Just below, at and just above a multiple.
      if (i % 4 == 3) a = a - Long.remainderUnsigned(a, b) + random.nextInt(3) - 1;
      BigInteger[] due = without(a).divideAndRemainder(without(b));
      one(x, tier, which, new long[] {a, b, due[0].longValue(), due[1].longValue()});
    }
  }

  private static BigInteger without(long bits) {
    return bits >= 0 ? BigInteger.valueOf(bits) : BigInteger.valueOf(bits).add(BigInteger.ONE.shiftLeft(64));
  }

  /** Operands that stand in the code instead of coming as arguments. */
  private static void constants() {
    for (int tier = 0; tier < 2; tier++) {
      for (long[] row : ROWS) {
        for (int which = 0; which < 2; which++) {
          byte[] body = Write.body(Write.i64(row[0]), Write.i64(row[1]), OPERATORS[which]);
          ModuleEngine x = Write.made(Write.one(Write.types(), Write.types(Write.I64), body));
          x.tier(tier);
          Write.calls(x, 0);
          Due.is("steps", x.run(10), 3);
          Due.is("in the code, " + name(tier, which, row[0], row[1]), x.value(0), row[2 + which]);
        }
      }
    }
  }
}
