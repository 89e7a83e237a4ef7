/** Promise 1: a new object has no modules, no store and an empty tape. */
final class NewObjectTest {
  public static void main(String[] args) {
    ModuleEngine x = new ModuleEngine();
    long[] states = {0, 0, 0, 0, -1, 0, 0, 0, 8, 1024, 0, 0, 0, -1};
    for (int i = 0; i < states.length; i++) Due.is("state(" + i + ")", x.state(i), states[i]);
    Due.is("state(-1)", x.state(-1), -1);
    Due.is("fault(0)", x.fault(0), -1);
    Due.is("fault(1)", x.fault(1), -1);
    Due.is("fault(2)", x.fault(2), -1);
    Due.is("make(0)", x.make(0), -1);
    Due.is("call(0, 0)", x.call(0, 0), false);
    Due.is("run(10)", x.run(10), 0);
    Due.is("give()", x.give(), false);
    Due.is("answer()", x.answer(), false);
    Due.is("value(0)", x.value(0), 0);
    Due.is("tier(0)", x.tier(0), 0);
    Due.is("export(0, 0, 0)", x.export(0, 0, 0), -1);
    Due.is("memory(0, 0, 0)", x.memory(0, 0, 0), -1);
    Due.is("poke(0, 0, 0, 0)", x.poke(0, 0, 0, 0), false);
    Due.is("table(0, 0, 0)", x.table(0, 0, 0), -2);
    Due.is("global(0, 0)", x.global(0, 0), 0);
    Due.is("offer(0, 0)", x.offer(0, 0), -1);
    Due.is("module(1)", x.module(1), -2);
    Due.is("fault(0)", x.fault(0), -1);
    Due.end();
  }
}
