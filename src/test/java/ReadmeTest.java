import java.io.IOException;
import java.lang.reflect.Constructor;
import java.lang.reflect.Method;
import java.lang.reflect.Modifier;
import java.nio.charset.StandardCharsets;
import java.nio.file.Files;
import java.nio.file.Path;
import java.util.ArrayList;
import java.util.Collections;
import java.util.List;
import java.util.regex.Matcher;
import java.util.regex.Pattern;

/** What README.md says of the use of the class, and of how its tests are run, holds. */
public final class ReadmeTest {
    private static final Due due = new Due("ReadmeTest");
    private static final String README = Texts.of(Path.of("README.md"));

    public static void main(String[] args) throws IOException, InterruptedException {
        exampleAndCommands();
        callsAreAllTold();
        testsAreAllNamed();
        ciRunIsThere();
        due.close();
    }

    /** All that stands between ```kind and ``` in the README. */
    private static List<String> blocks(String kind) {
        List<String> blocks = new ArrayList<>();
        Matcher found = Pattern.compile("```" + kind + "\n(.*?)```", Pattern.DOTALL).matcher(README);
        while (found.find()) {
            blocks.add(found.group(1));
        }
        return blocks;
    }

    private static List<String> found(String text, String pattern) {
        List<String> all = new ArrayList<>();
        Matcher found = Pattern.compile(pattern).matcher(text);
        while (found.find()) {
            all.add(found.group(1));
        }
        return all;
    }

    /** The commands are run as they stand, in a folder that has this checkout's src and the example. */
    private static void exampleAndCommands() throws IOException, InterruptedException {
        List<String> commands = blocks("sh");
        due.same("blocks of commands", commands.size(), 3);
        due.same("examples", blocks("java").size(), 1);
        due.same("answers of the example", blocks("text").size(), 1);
        due.same("the tests' command", commands.get(1).trim(), ".ci/run");
        Path folder = Files.createTempDirectory("readme");
        try {
            Files.createSymbolicLink(folder.resolve("src"), Path.of("src").toAbsolutePath());
            Files.writeString(folder.resolve("Example.java"), blocks("java").get(0));
            String printed = printed(folder, commands.get(0));
            due.same("the example", printed.split("\n"), blocks("text").get(0).split("\n"));
            due.same("one test alone", printed(folder, commands.get(2)).contains(" 0 wrong") ? 1 : 0, 1);
        } finally {
            remove(folder);
        }
    }

    /** What is printed, without complaints and remarks of the machine; with the exit code behind it, if it is not 0. */
    private static String printed(Path folder, String commands) throws IOException, InterruptedException {
        Process shell = new ProcessBuilder("sh", "-e", "-c", commands)
                .directory(folder.toFile()).redirectError(ProcessBuilder.Redirect.INHERIT).start();
        String printed = new String(shell.getInputStream().readAllBytes(), StandardCharsets.UTF_8);
        int code = shell.waitFor();
        return code == 0 ? printed : printed + "exit code " + code;
    }

    private static void remove(Path file) throws IOException {
        if (Files.isDirectory(file) && !Files.isSymbolicLink(file)) {
            try (var inside = Files.newDirectoryStream(file)) {
                for (Path each : inside) {
                    remove(each);
                }
            }
        }
        Files.delete(file);
    }

    /** Each call has a row, with as many arguments, and with its exceptions in their order. */
    private static void callsAreAllTold() {
        List<String> told = new ArrayList<>();
        for (String row : README.split("\n")) {
            Matcher call = Pattern.compile("\\| `(\\S*\\s?\\w+)\\((.*?)\\)` \\|.*\\|(.*)\\|").matcher(row);
            if (call.matches()) {
                int arguments = call.group(2).isEmpty() ? 0 : call.group(2).split(", ").length;
                told.add(call.group(1) + " " + arguments + " " + found(call.group(3), "`(\\w+)`"));
            }
        }
        List<String> face = new ArrayList<>();
        for (Constructor<?> constructor : WishWell.class.getConstructors()) {
            face.add("new WishWell " + constructor.getParameterCount() + " []");
        }
        for (Method method : WishWell.class.getDeclaredMethods()) {
            if (Modifier.isPublic(method.getModifiers())) {
                List<String> thrown = new ArrayList<>();
                for (Class<?> type : method.getExceptionTypes()) {
                    thrown.add(type.getSimpleName());
                }
                face.add(method.getName() + " " + method.getParameterCount() + " " + thrown);
            }
        }
        Collections.sort(told);
        Collections.sort(face);
        due.same("the table of calls", told.toArray(new String[0]), face.toArray(new String[0]));
    }

    private static void testsAreAllNamed() {
        List<String> named = new ArrayList<>();
        for (String row : README.split("\n")) {
            if (row.startsWith("| `") && row.contains("Test` |")) {
                named.addAll(found(row.substring(0, row.indexOf(" |")), "`(\\w+Test)`"));
            }
        }
        Collections.sort(named);
        List<String> there = new ArrayList<>();
        for (String name : Texts.namesIn(Path.of("src/test/java"), "Test.java")) {
            there.add(name + "Test");
        }
        due.same("the table of tests", named.toArray(new String[0]), there.toArray(new String[0]));
        for (String helper : found(README, "`(\\w+)\\.java`")) {
            boolean isThere = helper.equals("Example") || Files.exists(Path.of("src/test/java", helper + ".java"));
            due.same(helper + ".java is there", isThere ? 1 : 0, 1);
        }
    }

    private static void ciRunIsThere() {
        due.same(".ci/run can be run", Files.isExecutable(Path.of(".ci/run")) ? 1 : 0, 1);
        due.same("tests under ../shared/tests", Texts.namesIn(Path.of("../shared/tests"), ".java").isEmpty() ? 0 : 1, 1);
    }
}
