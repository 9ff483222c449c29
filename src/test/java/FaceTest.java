import java.io.IOException;
import java.lang.reflect.Constructor;
import java.lang.reflect.Field;
import java.lang.reflect.Method;
import java.lang.reflect.Modifier;
import java.nio.file.Files;
import java.nio.file.Path;
import java.util.Map;
import java.util.Set;
import java.util.TreeMap;
import java.util.TreeSet;

/** The face is the document's, the source keeps to the rules that can be looked up in it, and no call throws. */
final class FaceTest {
    private static final Map<String, String> METHODS = new TreeMap<>(Map.ofEntries(
        Map.entry("rect", "int int int int int boolean"), Map.entry("masked", "int int"), Map.entry("turned", "int"),
        Map.entry("feed", "int int int int int"), Map.entry("cut", "int"), Map.entry("run", ""), Map.entry("place", ""),
        Map.entry("undo", ""), Map.entry("at", "int int"), Map.entry("top", "int"), Map.entry("volume", "int"),
        Map.entry("span", "int int int"), Map.entry("thin", "int int"), Map.entry("nets", "int"),
        Map.entry("netOf", "int int int"), Map.entry("net", "int int int"), Map.entry("joined", "int int int"),
        Map.entry("device", "int int"), Map.entry("section", "int int"), Map.entry("out", "int"), Map.entry("digest", "")));
    private static final Set<String> CONSTANTS = new TreeSet<>(Set.of("NONE", "UNKNOWN", "OUTSIDE", "STATE", "FULL"));

    private FaceTest() {
    }

    public static void main(String[] args) throws IOException {
        face();
        insides();
        source();
        odd();
        Due.end();
    }

    private static void face() {
        Class<?> shop = LayerShop.class;
        Due.due("LayerShop is public and final", shop.getModifiers(), Modifier.PUBLIC | Modifier.FINAL);
        Map<String, String> methods = new TreeMap<>();
        for (Method m : shop.getDeclaredMethods()) {
            if (!Modifier.isPrivate(m.getModifiers())) {
                StringBuilder types = new StringBuilder();
                for (Class<?> type : m.getParameterTypes()) {
                    types.append(types.length() == 0 ? "" : " ").append(type.getName());
                }
                methods.put(m.getName(), types.toString());
                Due.due(m + " is public alone", m.getModifiers(), Modifier.PUBLIC);
                Due.due(m + " answers an int", m.getReturnType() == int.class ? 1 : 0, 1);
            }
        }
        Due.due("the methods " + methods, methods.equals(METHODS) ? 1 : 0, 1);
        Set<String> constants = new TreeSet<>();
        for (Field f : shop.getDeclaredFields()) {
            if (!Modifier.isPrivate(f.getModifiers())) {
                constants.add(f.getName());
                Due.due(f + " is a constant", f.getModifiers(), Modifier.PUBLIC | Modifier.STATIC | Modifier.FINAL);
            }
        }
        Due.due("the constants " + constants, constants.equals(CONSTANTS) ? 1 : 0, 1);
        Constructor<?>[] constructors = shop.getDeclaredConstructors();
        Due.due("one constructor", constructors.length, 1);
        Due.due("it is public", constructors[0].getModifiers(), Modifier.PUBLIC);
        Due.due("it takes nothing", constructors[0].getParameterCount(), 0);
        Due.due("STATE", LayerShop.STATE, -103);
    }

    private static void insides() {
        Class<?>[] classes = LayerShop.class.getDeclaredClasses();
        Due.due("some twelve classes", classes.length < 13 ? 1 : 0, 1);
        for (Class<?> c : classes) {
            Due.due(c + " is static", Modifier.isStatic(c.getModifiers()) ? 1 : 0, 1);
            Due.due(c + " is not public", c.getModifiers() & (Modifier.PUBLIC | Modifier.PROTECTED), 0);
            look(c);
        }
        look(LayerShop.class);
    }

    private static void look(Class<?> c) {
        int fields = 0;
        for (Field f : c.getDeclaredFields()) {
            boolean fixed = Modifier.isStatic(f.getModifiers());
            fields += fixed ? 0 : 1;
            Due.due(f + " is final if it is static", fixed && !Modifier.isFinal(f.getModifiers()) ? 1 : 0, 0);
        }
        Due.due(c + " has some twenty fields", fields <= 20 ? 1 : 0, 1);
        for (Method m : c.getDeclaredMethods()) {
            boolean ofFace = c == LayerShop.class && Modifier.isPublic(m.getModifiers());
            Due.due(m + " has a name of its own", !ofFace && METHODS.containsKey(m.getName()) ? 1 : 0, 0);
            Due.due(m + " takes seven at most", m.getParameterCount() <= 7 ? 1 : 0, 1);
        }
    }

    private static void source() throws IOException {
        String text = Files.readString(Path.of("src/main/java/LayerShop.java"));
        String code = text.replaceAll("(?s)/\\*.*?\\*/", "").replaceAll("//[^\n]*", "").replaceAll("\"[^\"\n]*\"", "\"\"");
        String[] never = {"\\bthrow\\b", "\\bthrows\\b", "\\btry\\b", "\\bcatch\\b", "\\bsynchronized\\b", "\\bassert\\b", "->", "::",
            "\\bpackage\\b", "\\bstatic\\s*\\{", "\\bSystem\\.(?!arraycopy)", "\\bArrays\\.(?!fill|copyOf)", "\\bimport (?!java\\.util\\.Arrays;)",
            "\\w+Exact\\b", "\\bvar\\b", "\\bdouble\\b", "\\bfloat\\b", "\"\"\\s*\\+", "\\+\\s*\"\"", "\\bprotected\\b", "\\bInteger\\b"};
        for (String pattern : never) {
            Due.due("the source has no " + pattern, code.replaceFirst(pattern, "").length(), code.length());
        }
        int start = -1;
        String[] lines = text.split("\n");
        for (int i = 0; i < lines.length; i++) {
            if (lines[i].matches(" {4,8}[a-z].*\\) \\{")) {
                start = i;
            }
            if (lines[i].matches(" {4,8}\\}") && start >= 0) {
                Due.due("the method of line " + (start + 1) + " is short", i - start < 62 ? 1 : 0, 1);
                start = -1;
            }
        }
    }

    /** Any numbers at all, and any bytes on the tape: nothing is thrown, and the board stays a board. */
    private static void odd() {
        long seed = 7;
        for (int round = 0; round < 40; round++) {
            LayerShop x = new LayerShop();
            for (int call = 0; call < Shop.CALLS_MOST - 2; call++) {
                int[] n = new int[6];
                for (int i = 0; i < 6; i++) {
                    seed = seed * 6364136223846793005L + 1442695040888963407L;
                    int any = (int) (seed >>> 32);
                    int[] choices = {any, any & 15, any & 255, -(any & 3), Integer.MIN_VALUE, Integer.MAX_VALUE, any & 7, any & 1};
                    n[i] = choices[(int) (seed >>> 60) & 7];
                }
                call(x, (int) (seed >>> 40 & 31), n);
            }
            Due.due("volume(0) and volume(10) are all cubes", x.volume(0) + x.volume(10), 2880);
        }
    }

    private static void call(LayerShop x, int which, int[] n) {
        int[] bytes = {0x6c617920, 0x6220313b, 0x63757420, 0x61203b3b, 0x7d7b3d3c, 0x72657065, 0x61742039, n[0]};
        switch (which) {
            case 0 -> x.rect(n[0], n[1], n[2], n[3], n[4], n[5] > 0);
            case 1 -> x.masked(n[0], n[1]);
            case 2 -> x.turned(n[0]);
            case 3 -> x.feed(bytes[n[0] & 7], bytes[n[1] & 7], bytes[n[2] & 7], bytes[n[3] & 7], bytes[n[4] & 7]);
            case 4 -> x.cut(n[0]);
            case 5, 6 -> x.run();
            case 7 -> x.place();
            case 8 -> x.undo();
            case 9 -> x.at(n[0], n[1]);
            case 10 -> x.top(n[0]);
            case 11 -> x.volume(n[0]);
            case 12 -> x.span(n[0], n[1], n[2]);
            case 13 -> x.thin(n[0], n[1]);
            case 14 -> x.nets(n[0]);
            case 15 -> x.netOf(n[0], n[1], n[2]);
            case 16 -> x.net(n[0], n[1], n[2]);
            case 17 -> x.joined(n[0], n[1], n[2]);
            case 18 -> x.device(n[0], n[1]);
            case 19 -> x.section(n[0], n[1]);
            case 20 -> x.out(n[0]);
            case 21 -> x.digest();
            default -> x.feed(n[0], n[1], n[2], n[3], n[4]);
        }
    }
}
