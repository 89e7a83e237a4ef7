/** Promises 2 and 3: what is fed comes behind what is there, the highest byte first; module() empties it. */
final class TapeTest {
  public static void main(String[] args) {
    order();
    limit();
    numbers();
    Due.end();
  }

  private static void order() {
    ModuleEngine x = new ModuleEngine();
    Due.is("feed", x.feed(0x0061736d, 0x01000000, 0, 0, 0), 20);
    Due.is("feed", x.feed(1, 2, 3, 4, 5), 40);
    Due.is("state(10)", x.state(10), 40);
    Due.is("module(41)", x.module(41), -2);
    Due.is("module(-1)", x.module(-1), -2);
    Due.is("module(minimum)", x.module(Integer.MIN_VALUE), -2);
    Due.is("fault(0)", x.fault(0), -1);
    Due.is("state(10)", x.state(10), 40);
    Due.is("module(8)", x.module(8), 0);
    Due.is("state(10)", x.state(10), 0);
    Due.is("module(1)", x.module(1), -2);
    Due.is("feed", x.feed(0x00617300, 0, 0, 0, 0), 20);
    Due.is("module(4)", x.module(4), -1);
    Due.is("fault(0)", x.fault(0), 5);
    Due.is("fault(1)", x.fault(1), 3);
    Due.is("fault(2)", x.fault(2), -1);
    Due.is("fault(-1)", x.fault(-1), -1);
    Due.is("state(10)", x.state(10), 0);
    Due.is("module(99)", x.module(99), -2);
    Due.is("fault(0) stays", x.fault(0), 5);
    Due.is("module(0)", x.module(0), -1);
    Due.is("fault(0)", x.fault(0), 1);
    Due.is("fault(1)", x.fault(1), 0);
  }

  private static void limit() {
    ModuleEngine x = new ModuleEngine();
    for (int i = 1; i <= 2048; i++) {
      int there = x.feed(-1, -1, -1, -1, -1);
      if (i % 512 == 0) Due.is("feed " + i, there, 20 * i);
    }
    Due.is("feed beyond", x.feed(0, 0, 0, 0, 0), -1);
    Due.is("state(10)", x.state(10), 40960);
    Due.is("module(40960)", x.module(40960), -1);
    Due.is("feed beyond, ever", x.feed(0, 0, 0, 0, 0), -1);
    Due.is("state(10)", x.state(10), 0);
  }

  private static void numbers() {
    ModuleEngine x = new ModuleEngine();
    for (int i = 0; i < 16; i++) {
      Due.is("module " + i, Write.load(x, Write.module()), i);
      Due.is("state(5)", x.state(5), i + 1);
    }
    Write.feed(x, Write.module());
    Due.is("the 17th", x.module(8), -2);
    Due.is("state(10)", x.state(10), 20);
  }
}
