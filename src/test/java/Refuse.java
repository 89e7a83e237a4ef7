/** Brings modules into new engines, and looks at their faults. */
final class Refuse {
  private Refuse() {}

  static void with(String what, int fault, int place, byte[] module) {
    ModuleEngine engine = new ModuleEngine();
    Due.is(what + ": module()", Write.load(engine, module), fault == 0 ? 0 : -1);
    Due.is(what + ": fault(0)", engine.fault(0), fault);
    Due.is(what + ": fault(1)", engine.fault(1), fault == 0 ? -1 : place);
    Due.is(what + ": state(5)", engine.state(5), fault == 0 ? 1 : 0);
    Due.is(what + ": state(10)", engine.state(10), 0);
  }

  /** The place counted from the end: 1 is the last byte. */
  static void fromEnd(String what, int fault, int back, byte[] module) {
    with(what, fault, module.length - back, module);
  }

  static void not(String what, byte[] module) {
    with(what, 0, -1, module);
  }
}
