import java.io.ByteArrayOutputStream;
import java.nio.charset.StandardCharsets;

/** Writes modules as bytes, and brings them into an engine. */
final class Write {
  static final int I32 = 127;
  static final int I64 = 126;
  static final int F32 = 125;
  static final int F64 = 124;
  static final int FUNC = 112;
  static final int EXT = 111;
  static final int END = 11;

  private Write() {}

  /** Joins parts: an Integer is a byte, a String a name, bytes are themselves. */
  static byte[] join(Object... parts) {
    ByteArrayOutputStream out = new ByteArrayOutputStream();
    for (Object part : parts) {
      if (part instanceof Integer) out.write((Integer) part);
      else if (part instanceof byte[]) out.writeBytes((byte[]) part);
      else if (part instanceof Object[]) out.writeBytes(join((Object[]) part));
      else out.writeBytes(name(((String) part).getBytes(StandardCharsets.UTF_8)));
    }
    return out.toByteArray();
  }

  static byte[] u(long n) {
    ByteArrayOutputStream out = new ByteArrayOutputStream();
    long rest = n;
    while (rest > 127) {
      out.write((int) (rest & 127 | 128));
      rest >>>= 7;
    }
    out.write((int) rest);
    return out.toByteArray();
  }

  static byte[] s(long n) {
    ByteArrayOutputStream out = new ByteArrayOutputStream();
    long rest = n;
    while (rest < -64 || rest > 63) {
      out.write((int) (rest & 127 | 128));
      rest >>= 7;
    }
    out.write((int) (rest & 127));
    return out.toByteArray();
  }

  static byte[] lowest(long bits, int count) {
    byte[] out = new byte[count];
    for (int i = 0; i < count; i++) out[i] = (byte) (bits >>> 8 * i);
    return out;
  }

  static byte[] name(byte[] bytes) {
    return join(u(bytes.length), bytes);
  }

  static byte[] row(byte[]... items) {
    byte[] out = u(items.length);
    for (byte[] item : items) out = join(out, item);
    return out;
  }

  static byte[] section(int id, Object... content) {
    byte[] bytes = join(content);
    return join(id, u(bytes.length), bytes);
  }

  static byte[] rows(int id, byte[]... items) {
    return section(id, row(items));
  }

  static byte[] module(byte[]... sections) {
    byte[] out = {0, 97, 115, 109, 1, 0, 0, 0};
    for (byte[] section : sections) out = join(out, section);
    return out;
  }

  static int[] types(int... types) {
    return types;
  }

  static byte[] type(int[] parameters, int... results) {
    byte[] out = join(96, u(parameters.length));
    for (int type : parameters) out = join(out, type);
    out = join(out, u(results.length));
    for (int type : results) out = join(out, type);
    return out;
  }

  static byte[] sized(Object... parts) {
    byte[] bytes = join(parts);
    return join(u(bytes.length), bytes);
  }

  /** A body without locals. */
  static byte[] body(Object... code) {
    return sized(0, join(code), END);
  }

  /** A body with locals of one type. */
  static byte[] bodyWith(int locals, int type, Object... code) {
    return sized(1, u(locals), type, join(code), END);
  }

  static byte[] export(String name, int kind, int index) {
    return join(name, kind, u(index));
  }

  static byte[] i32(int n) {
    return join(65, s(n));
  }

  static byte[] i64(long n) {
    return join(66, s(n));
  }

  static byte[] f32(float x) {
    return join(67, lowest(Float.floatToRawIntBits(x), 4));
  }

  static byte[] f64(double x) {
    return join(68, lowest(Double.doubleToRawLongBits(x), 8));
  }

  /** A module with one exported function. */
  static byte[] one(int[] parameters, int[] results, byte[] body) {
    return module(rows(1, type(parameters, results)), rows(3, u(0)), rows(7, export("f", 0, 0)), rows(10, body));
  }

  static void feed(ModuleEngine engine, byte[] bytes) {
    for (int i = 0; i < bytes.length; i += 20) {
      int[] words = new int[5];
      for (int k = 0; k < 20 && i + k < bytes.length; k++) words[k / 4] |= (bytes[i + k] & 255) << 24 - k % 4 * 8;
      engine.feed(words[0], words[1], words[2], words[3], words[4]);
    }
  }

  static int load(ModuleEngine engine, byte[] bytes) {
    feed(engine, bytes);
    return engine.module(bytes.length);
  }

  /** An engine with one instance of a module. */
  static ModuleEngine made(byte[] bytes) {
    ModuleEngine engine = new ModuleEngine();
    Due.is("module()", load(engine, bytes), 0);
    Due.is("make(0)", engine.make(0), 0);
    return engine;
  }

  static void calls(ModuleEngine engine, int export, long... arguments) {
    for (long bits : arguments) engine.argument(bits);
    Due.is("call(0, " + export + ")", engine.call(0, export), true);
  }
}
