import java.io.ByteArrayInputStream;
import java.io.DataInputStream;
import java.io.IOException;
import java.io.InputStream;
import java.util.LinkedHashMap;
import java.util.LinkedHashSet;
import java.util.Map;
import java.util.Set;

/** What the compiled class calls and makes, method by method: read from its class files. */
final class Compiled {
  static final String DYNAMIC = "invokedynamic";
  private static final int LDC = 18;
  private static final int TABLESWITCH = 170;
  private static final int LOOKUPSWITCH = 171;
  private static final int INVOKES_FROM = 182;
  private static final int INVOKEDYNAMIC = 186;
  private static final int NEW = 187;
  private static final int NEWARRAY = 188;
  private static final int ANEWARRAY = 189;
  private static final int WIDE = 196;
  private static final int IINC = 132;
  private static final int MULTIANEWARRAY = 197;

  /** By method, "Class.name descriptor": the methods that it calls. */
  final Map<String, Set<String>> calls = new LinkedHashMap<>();
  /** By method: the classes of which it makes objects; "[]" for an array. */
  final Map<String, Set<String>> made = new LinkedHashMap<>();
  private Object[] pool = new Object[0];
  private String owner = "";

  static Compiled of(Class<?> face) throws IOException {
    Compiled all = new Compiled();
    all.read(face);
    for (Class<?> inside : face.getDeclaredClasses()) all.read(inside);
    return all;
  }

  private void read(Class<?> c) throws IOException {
    owner = c.getName();
    try (InputStream file = c.getResourceAsStream(c.getName() + ".class"); DataInputStream in = new DataInputStream(file)) {
      in.skipBytes(8);
      readPool(in);
      in.skipBytes(6);
      in.skipBytes(2 * in.readUnsignedShort());
      readMembers(in);
      readMembers(in);
    }
  }

  private void readPool(DataInputStream in) throws IOException {
    pool = new Object[in.readUnsignedShort()];
    for (int i = 1; i < pool.length; i++) {
      int tag = in.readUnsignedByte();
      if (tag == 1) pool[i] = in.readUTF();
      else if (tag == 7) pool[i] = new int[] {in.readUnsignedShort()};
      else if (tag == 9 || tag == 10 || tag == 11 || tag == 12) pool[i] = new int[] {in.readUnsignedShort(), in.readUnsignedShort()};
      else if (tag == 8 || tag == 16) in.skipBytes(2);
      else if (tag == 15) in.skipBytes(3);
      else if (tag == 3 || tag == 4 || tag == 17 || tag == 18) in.skipBytes(4);
      else if (tag == 5 || tag == 6) {
        in.skipBytes(8);
        i++;
      } else throw new IOException("a constant of kind " + tag);
    }
  }

  private String text(int at, int part) {
    return (String) pool[((int[]) pool[at])[part]];
  }

  private String member(int at) {
    int[] both = (int[]) pool[at];
    return name(text(both[0], 0).replace('/', '.'), text(both[1], 0), text(both[1], 1));
  }

  private static String name(String in, String called, String descriptor) {
    return in + "." + called + " " + descriptor;
  }

  private void readMembers(DataInputStream in) throws IOException {
    int members = in.readUnsignedShort();
    for (int i = 0; i < members; i++) {
      in.skipBytes(2);
      String name = name(owner, (String) pool[in.readUnsignedShort()], (String) pool[in.readUnsignedShort()]);
      int attributes = in.readUnsignedShort();
      for (int k = 0; k < attributes; k++) {
        String kind = (String) pool[in.readUnsignedShort()];
        byte[] body = in.readNBytes(in.readInt());
        if (kind.equals("Code")) readCode(name, body);
      }
    }
  }

  private void readCode(String name, byte[] body) throws IOException {
    DataInputStream in = new DataInputStream(new ByteArrayInputStream(body));
    in.skipBytes(4);
    byte[] code = in.readNBytes(in.readInt());
    Set<String> called = calls.computeIfAbsent(name, n -> new LinkedHashSet<>());
    Set<String> makes = made.computeIfAbsent(name, n -> new LinkedHashSet<>());
    for (int at = 0; at < code.length; at += length(code, at)) {
      int op = code[at] & 255;
      if (op == INVOKEDYNAMIC) called.add(DYNAMIC);
      else if (op >= INVOKES_FROM && op < INVOKEDYNAMIC) called.add(member(shortAt(code, at + 1)));
      else if (op == NEW) makes.add(text(shortAt(code, at + 1), 0).replace('/', '.'));
      else if (op == NEWARRAY || op == ANEWARRAY || op == MULTIANEWARRAY) makes.add("[]");
    }
  }

  private static int shortAt(byte[] code, int at) {
    return (code[at] & 255) << 8 | code[at + 1] & 255;
  }

  private static int intAt(byte[] code, int at) {
    return shortAt(code, at) << 16 | shortAt(code, at + 2);
  }

  private static int length(byte[] code, int at) {
    int op = code[at] & 255;
    int aligned = at + 4 - at % 4;
    if (op == TABLESWITCH) return aligned + 12 + 4 * (intAt(code, aligned + 8) - intAt(code, aligned + 4) + 1) - at;
    if (op == LOOKUPSWITCH) return aligned + 8 + 8 * intAt(code, aligned + 4) - at;
    if (op == WIDE) return (code[at + 1] & 255) == IINC ? 6 : 4;
    if (op == 16 || op == LDC || op >= 21 && op <= 25 || op >= 54 && op <= 58 || op == 169 || op == NEWARRAY) return 2;
    if (op == 185 || op == INVOKEDYNAMIC || op >= 200) return 5;
    if (op == MULTIANEWARRAY) return 4;
    boolean three = op == 17 || op == 19 || op == 20 || op == IINC || op >= 153 && op <= 168 || op >= 178 && op <= 184
        || op == NEW || op == ANEWARRAY || op == 192 || op == 193 || op == 198 || op == 199;
    return three ? 3 : 1;
  }
}
