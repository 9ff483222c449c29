import java.io.IOException;
import java.lang.reflect.Method;
import java.lang.reflect.Modifier;
import java.net.URL;
import java.net.URLClassLoader;
import java.nio.file.Files;
import java.nio.file.Path;
import java.util.ArrayList;
import java.util.List;
import java.util.regex.Matcher;
import java.util.regex.Pattern;
import java.util.stream.Stream;
import javax.tools.ToolProvider;

/**
 * The calls of README.md answer as it tells, and its commands do what it tells. The blocks of Java
 * are compiled as one program: a line 'call; // answer ...' must answer what stands behind it.
 */
final class ReadmeTest {
    private static final Path README = Path.of("README.md");
    private static final Pattern BLOCK = Pattern.compile("(?ms)^```(\\w+)\n(.*?)^```$");
    private static final Pattern CALL = Pattern.compile("((?:shop\\.|run\\().*);\\s+// (-?\\d+|[A-Z]{2,})\\b.*");

    private static final StringBuilder methods = new StringBuilder();
    private static final StringBuilder calls = new StringBuilder();
    private static final List<String> names = new ArrayList<>();
    private static final List<Integer> wants = new ArrayList<>();
    private static final List<String> commands = new ArrayList<>();

    private ReadmeTest() {
    }

    public static void main(String[] args) throws Exception {
        String text = Files.readString(README);
        Path room = Files.createTempDirectory("readme");
        try {
            readBlocks(text);
            callsAnswer(room);
            allIsCalled();
            allIsNamed(text);
            commandsRun(room);
        } finally {
            remove(room);
        }
        Due.end();
    }

    private static void readBlocks(String text) {
        Matcher block = BLOCK.matcher(text);
        while (block.find()) {
            String inside = block.group(2);
            switch (block.group(1)) {
                case "java" -> readJava(inside);
                case "text" -> readPage(inside);
                case "sh" -> commands.addAll(List.of(inside.split("\n")));
                default -> Due.due("README.md: a block of " + block.group(1), 0, 1);
            }
        }
    }

    private static void readJava(String block) {
        if (block.startsWith("static ")) {
            methods.append(block);
            return;
        }
        for (String line : block.split("\n")) {
            Matcher call = CALL.matcher(line);
            if (call.matches()) {
                add(call.group(1), valueOf(call.group(2)));
            } else {
                boolean isTold = line.startsWith("//") || line.startsWith("LayerShop shop = ");
                Due.due("README.md has a call without an answer: " + line, isTold ? 1 : 0, 1);
                calls.append(line).append('\n');
            }
        }
    }

    /** A page of THE OUT: the bytes that are told, and none behind them. */
    private static void readPage(String page) {
        for (int i = 0; i < page.length(); i++) {
            add("shop.out(" + i + ")", page.charAt(i));
        }
        add("shop.out(" + page.length() + ")", LayerShop.NONE);
    }

    private static void add(String call, int want) {
        calls.append("got.add(").append(call).append(");\n");
        names.add(call);
        wants.add(want);
    }

    private static int valueOf(String answer) {
        return switch (answer) {
            case "NONE" -> LayerShop.NONE;
            case "UNKNOWN" -> LayerShop.UNKNOWN;
            case "OUTSIDE" -> LayerShop.OUTSIDE;
            case "STATE" -> LayerShop.STATE;
            case "FULL" -> LayerShop.FULL;
            default -> Integer.parseInt(answer);
        };
    }

    private static void callsAnswer(Path room) throws Exception {
        String program = "public final class ReadmeCalls {\n" + methods
            + "public static void make(java.util.List<Integer> got) {\n" + calls + "}\n}\n";
        Path file = Files.writeString(room.resolve("ReadmeCalls.java"), program);
        String[] words = {"-d", room.toString(), "-cp", System.getProperty("java.class.path"), file.toString()};
        int failed = ToolProvider.getSystemJavaCompiler().run(null, null, null, words);
        Due.due("javac of the calls of README.md", failed, 0);
        List<Integer> got = new ArrayList<>();
        if (failed == 0) {
            try (URLClassLoader loader = new URLClassLoader(new URL[] {room.toUri().toURL()})) {
                loader.loadClass("ReadmeCalls").getMethod("make", List.class).invoke(null, got);
            }
        }
        Due.due("answers to the calls of README.md", got.size(), wants.size());
        for (int i = 0; i < got.size(); i++) {
            Due.due("README.md, call " + (i + 1) + ": " + names.get(i), got.get(i), wants.get(i));
        }
        System.out.println(got.size() + " calls of README.md");
    }

    /** Each method of the class is shown. */
    private static void allIsCalled() {
        for (Method m : LayerShop.class.getDeclaredMethods()) {
            boolean isShown = calls.indexOf("shop." + m.getName() + "(") >= 0;
            Due.due("README.md shows " + m.getName(), isShown || !Modifier.isPublic(m.getModifiers()) ? 1 : 0, 1);
        }
    }

    /** Each test stands in the commands, and in the list that says what it is. */
    private static void allIsNamed(String text) throws IOException {
        List<Path> files;
        try (Stream<Path> all = Files.list(Path.of("src/test/java"))) {
            files = all.sorted().toList();
        }
        for (Path file : files) {
            String name = file.getFileName().toString().replace(".java", "");
            if (name.endsWith("Test")) {
                Due.due("README.md has a command for " + name, commands.contains("java -cp build " + name) ? 1 : 0, 1);
                Due.due("README.md says what " + name + " is", text.contains("\n- `" + name + "`: ") ? 1 : 0, 1);
            }
        }
        Due.due("README.md has the command .ci/run", commands.contains(".ci/run") ? 1 : 0, 1);
        Due.due(".ci/run can be run", Files.isExecutable(Path.of(".ci/run")) ? 1 : 0, 1);
    }

    /** The commands, in a room of their own where the sources stand as they do here; not those that would run this test again. */
    private static void commandsRun(Path room) throws IOException, InterruptedException {
        Path here = Files.createDirectory(room.resolve("main"));
        Files.createSymbolicLink(room.resolve("shared"), Path.of("../shared").toRealPath());
        for (String name : new String[] {"src", ".ci", "README.md"}) {
            Files.createSymbolicLink(here.resolve(name), Path.of(name).toRealPath());
        }
        for (String command : commands) {
            if (!command.equals(".ci/run") && !command.contains("ReadmeTest")) {
                Path told = room.resolve("told");
                Process process = new ProcessBuilder("sh", "-c", command).directory(here.toFile())
                    .redirectErrorStream(true).redirectOutput(told.toFile()).start();
                int code = process.waitFor();
                Due.due("the command of README.md: " + command, code, 0);
                System.out.print(code == 0 ? "" : Files.readString(told));
            }
        }
    }

    /** A link goes, not what it leads to. */
    private static void remove(Path path) throws IOException {
        if (Files.isDirectory(path) && !Files.isSymbolicLink(path)) {
            List<Path> inside;
            try (Stream<Path> files = Files.list(path)) {
                inside = files.toList();
            }
            for (Path file : inside) {
                remove(file);
            }
        }
        Files.delete(path);
    }
}
