/** Promises 7 to 13: arguments, calls, steps, giving up, HOST's answers, states and values. */
final class CallingTest {
  // Exports: 0 id (i32, i64, f32, f64), 1 refs (func, ext), 2 asks HOST (i32) -> i64, 3 HOST's itself, 4 endless, 5 nothing.
  private static final byte[] MODULE = Write.module(
      Write.rows(1, Write.type(Write.types(127, 126, 125, 124), 127, 126, 125, 124), Write.type(Write.types(112, 111), 112, 111),
          Write.type(Write.types(127), 126), Write.type(Write.types())),
      Write.rows(2, Write.join("a", "b", 0, 2), Write.join("a", "c", 0, 1)),
      Write.rows(3, Write.u(0), Write.u(1), Write.u(2), Write.u(3), Write.u(3)),
      Write.rows(4, Write.join(111, 0, 1)),
      Write.rows(7, Write.export("id", 0, 2), Write.export("refs", 0, 3), Write.export("asks", 0, 4), Write.export("host", 0, 0),
          Write.export("endless", 0, 5), Write.export("nothing", 0, 6), Write.export("t", 1, 0), Write.export("hostRefs", 0, 1)),
      Write.rows(10, Write.body(32, 0, 32, 1, 32, 2, 32, 3), Write.body(32, 0, 32, 1),
          Write.body(1, 32, 0, 16, 0, 66, 1, 124), Write.body(3, 64, 1, 12, 0, 11), Write.body(2, 64, 3, 64, 11, 11)));

  public static void main(String[] args) {
    arguments();
    references();
    steps();
    host();
    hostFromOutside();
    ends();
    Due.end();
  }

  private static ModuleEngine made() {
    ModuleEngine x = new ModuleEngine();
    Write.load(x, MODULE);
    x.offer(-1, 17);
    x.offer(-1, 18);
    Due.is("make", x.make(0), 0);
    return x;
  }

  private static void arguments() {
    ModuleEngine x = made();
    for (int i = 1; i <= 16; i++) Due.is("argument", x.argument(i), i);
    Due.is("the 17th", x.argument(17), -1);
    Due.is("too many", x.call(0, 0), false);
    Due.is("too many for none", x.call(0, 5), false);
    Due.is("state(0)", x.state(0), 0);
    x = made();
    Due.is("too few", x.call(0, 0), false);
    x.argument(-1);
    x.argument(-2);
    x.argument(0x1234567890abcdefL);
    Due.is("still too few", x.call(0, 0), false);
    x.argument(-4);
    Due.is("no such export", x.call(0, 8), false);
    Due.is("no such export", x.call(0, -1), false);
    Due.is("no such instance", x.call(1, 0), false);
    Due.is("no such instance", x.call(-1, 0), false);
    Due.is("a table", x.call(0, 6), false);
    Due.is("call", x.call(0, 0), true);
    Due.is("they are gone", x.argument(5), 1);
    Due.is("value while it runs", x.value(0), 0);
    Due.is("run", x.run(100), 4);
    Due.is("i32", x.value(0), 4294967295L);
    Due.is("i64", x.value(1), -2);
    Due.is("f32", x.value(2), 0x90abcdefL);
    Due.is("f64", x.value(3), -4);
    Due.is("value 4", x.value(4), 0);
    Due.is("value -1", x.value(-1), 0);
  }

  private static void reference(long function, long outside, boolean is) {
    ModuleEngine x = made();
    x.argument(function);
    x.argument(outside);
    Due.is("references " + function + " " + outside, x.call(0, 1), is);
    Due.is("arguments", x.argument(0), is ? 1 : 3);
    if (!is) return;
    Due.is("run", x.run(9), 2);
    Due.is("value 0", x.value(0), function);
    Due.is("value 1", x.value(1), outside);
  }

  private static void references() {
    reference(-1, -1, true);
    reference(0, 0, true);
    reference(6, 2147483647, true);
    reference(7, 0, false);
    reference(-2, 0, false);
    reference(0, -2, false);
    reference(0, 2147483648L, false);
    reference(4294967296L, 0, false);
    reference(Long.MIN_VALUE, 0, false);
  }

  private static void steps() {
    ModuleEngine x = made();
    Due.is("nothing runs", x.run(5), 0);
    Due.is("run(-1)", x.run(-1), -1);
    Due.is("run(100001)", x.run(100001), -1);
    Write.calls(x, 4);
    Due.is("state(0)", x.state(0), 1);
    Due.is("state(3)", x.state(3), 1);
    Due.is("run(0)", x.run(0), 0);
    Due.is("run(-1)", x.run(-1), -1);
    Due.is("run(100001)", x.run(100001), -1);
    Due.is("run(100000)", x.run(100000), 100000);
    Due.is("run(1)", x.run(1), 1);
    Due.is("state(2)", x.state(2), 100001);
    Due.is("call while it runs", x.call(0, 5), false);
    Due.is("answer while it runs", x.answer(), false);
    Due.is("give", x.give(), true);
    Due.is("state(0)", x.state(0), 6);
    Due.is("state(2)", x.state(2), 100001);
    Due.is("state(3)", x.state(3), 0);
    Due.is("give again", x.give(), false);
    Due.is("run", x.run(10), 0);
    Due.is("value", x.value(0), 0);
    Write.calls(x, 5);
    Due.is("blocks are no steps", x.state(0), 2);
    Due.is("state(2)", x.state(2), 0);
    Due.is("give", x.give(), false);
  }

  private static void host() {
    ModuleEngine x = made();
    Write.calls(x, 2, 5000000000L);
    Due.is("run", x.run(2), 2);
    Due.is("state(0)", x.state(0), 1);
    Due.is("state(4)", x.state(4), -1);
    Due.is("run", x.run(9), 1);
    Due.is("state(0)", x.state(0), 5);
    Due.is("state(3)", x.state(3), 1);
    Due.is("state(4)", x.state(4), 17);
    Due.is("its argument", x.value(0), 5000000000L & 4294967295L);
    Due.is("value 1", x.value(1), 0);
    Due.is("run", x.run(9), 0);
    Due.is("make", x.make(0), -10);
    Due.is("call", x.call(0, 5), false);
    Due.is("answer without a result", x.answer(), false);
    x.argument(-9);
    x.argument(3);
    Due.is("answer with two", x.answer(), false);
    Due.is("state(0)", x.state(0), 5);
    Due.is("give", x.give(), true);
    Due.is("state(4)", x.state(4), -1);
    Due.is("answer", x.answer(), false);
    x = made();
    Write.calls(x, 2, 1);
    x.run(9);
    x.argument(-9);
    Due.is("answer", x.answer(), true);
    Due.is("state(0)", x.state(0), 1);
    Due.is("state(2)", x.state(2), 3);
    Due.is("arguments are gone", x.argument(7), 1);
    Due.is("run", x.run(9), 2);
    Due.is("value", x.value(0), -8);
    Due.is("state(2)", x.state(2), 5);
  }

  private static void hostFromOutside() {
    ModuleEngine x = made();
    Write.calls(x, 3, -1);
    Due.is("state(0)", x.state(0), 5);
    Due.is("state(2)", x.state(2), 0);
    Due.is("state(3)", x.state(3), 0);
    Due.is("state(4)", x.state(4), 17);
    Due.is("value", x.value(0), 4294967295L);
    x.argument(-1);
    Due.is("answer", x.answer(), true);
    Due.is("state(0)", x.state(0), 2);
    Due.is("value", x.value(0), -1);
    Write.calls(x, 7, 1, 2);
    x.argument(7);
    x.argument(0);
    Due.is("a function that there is not", x.answer(), false);
    Due.is("give", x.give(), true);
    Due.is("arguments stay", x.call(0, 1), false);
    x = made();
    Write.calls(x, 7, -1, -1);
    Due.is("value 0", x.value(0), -1);
    x.argument(6);
    x.argument(2147483647);
    Due.is("answer", x.answer(), true);
    Due.is("value 0", x.value(0), 6);
    Due.is("value 1", x.value(1), 2147483647);
  }

  /** The end of a function is done with what is ahead of it, an answer too. */
  private static void ends() {
    byte[] module = Write.module(Write.rows(1, Write.type(Write.types())), Write.rows(2, Write.join("a", "b", 0, 0)),
        Write.rows(3, Write.u(0), Write.u(0)), Write.rows(7, Write.export("f", 0, 2)),
        Write.rows(10, Write.body(2, 64, 16, 0, 11), Write.body(16, 1)));
    ModuleEngine x = new ModuleEngine();
    Write.load(x, module);
    x.offer(-1, 1);
    x.make(0);
    Write.calls(x, 0);
    Due.is("state(3)", x.state(3), 1);
    Due.is("run", x.run(1), 1);
    Due.is("state(3)", x.state(3), 2);
    Due.is("run", x.run(1), 1);
    Due.is("state(0)", x.state(0), 5);
    Due.is("state(3)", x.state(3), 2);
    Due.is("answer", x.answer(), true);
    Due.is("state(0)", x.state(0), 2);
    Due.is("state(2)", x.state(2), 2);
  }
}
