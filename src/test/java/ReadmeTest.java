import java.io.IOException;
import java.lang.reflect.Method;
import java.lang.reflect.Modifier;
import java.nio.file.DirectoryStream;
import java.nio.file.Files;
import java.nio.file.Path;
import java.util.ArrayList;
import java.util.List;

/** What README.md says of the use is so. Runs in the project's directory. */
public final class ReadmeTest {
    private static final Path README = Path.of("README.md");
    private static final Path THIS = Path.of("src/test/java/ReadmeTest.java");

    public static void main(String[] args) throws IOException {
        example();
        exampleIsTheOneOfReadme();
        refusals();
        allCallsAreTold();
        allAnswersAreTold();
        allTestsAreTold();
        Due.finish();
    }

    private static void example() {
        ElementFiles files = new ElementFiles();
        int segment = files.make(-1, 0x18538067, 0);
        int cluster = files.make(segment, 0x1F43B675, 0);
        files.make(cluster, 0xE7, 1000);
        files.frame(3, 10);
        files.block(cluster, 1, -5, true, 0);
        files.index(segment);
        int found = files.jump(segment, 1, 2000);
        int bytes = files.write(false);
        files.take(true);
        int elements = files.read();
        Due.is("the SEGMENT", segment, 0);
        Due.is("the CLUSTER", cluster, 1);
        Due.is("the TIME", files.value(2), 1000);
        Due.is("the block found", found, 3);
        for (int i = 0; i < 3; i++) {
            Due.is("byte " + i + " of the frame", files.sample(found, 0, i), 10 + i);
        }
        Due.is("it is a key block", files.detail(found, 2), 1);
        Due.is("the moment in the CUE", files.value(5), 995);
        Due.is("the last byte of OUT", files.out(bytes - 1), 0);
        Due.is("behind OUT", files.out(bytes), ElementFiles.NONE);
        Due.is("elements read", elements, 8);
        Due.is("where() without a fault", files.where(), ElementFiles.NONE);
    }

    /** The lines of code in README.md, without what explains them. */
    private static List<String> toldLines() throws IOException {
        List<String> lines = new ArrayList<>();
        boolean code = false;
        for (String line : Files.readAllLines(README)) {
            if (line.startsWith("```")) {
                code = line.equals("```java");
            } else if (code) {
                lines.add(line.replaceFirst(" *//.*", ""));
            }
        }
        return lines;
    }

    private static void exampleIsTheOneOfReadme() throws IOException {
        StringBuilder told = new StringBuilder();
        for (String line : toldLines()) {
            told.append("        ").append(line).append('\n');
        }
        Due.is("lines are told", told.length() > 0 ? 1 : 0, 1);
        Due.is("the example above is that of README.md", Files.readString(THIS).contains(told) ? 1 : 0, 1);
    }

    /** One refused call for each answer that the table tells of a call. */
    private static void refusals() {
        ElementFiles x = new ElementFiles();
        Due.is("feed: NONE", x.feed(0, 9), ElementFiles.NONE);
        Due.is("out: NONE", x.out(0), ElementFiles.NONE);
        Due.is("where: NONE", x.where(), ElementFiles.NONE);
        Due.is("make: NONE", x.make(0, Due.VOID, 65), ElementFiles.NONE);
        Due.is("make: MISPLACED", x.make(-1, Due.BLOCK, 65), ElementFiles.MISPLACED);
        Due.is("make: DATA", x.make(-1, Due.VOID, 65), ElementFiles.DATA);
        Due.is("letter: NONE", x.letter(0, 'a'), ElementFiles.NONE);
        Due.is("frame: NONE", x.frame(301, 0), ElementFiles.NONE);
        Due.is("block: NONE", x.block(0, 0, 0, true, 0), ElementFiles.NONE);
        Due.is("id: NONE", x.id(0), ElementFiles.NONE);
        Due.is("parent: NONE", x.parent(0), ElementFiles.NONE);
        Due.is("value: NONE", x.value(0), ElementFiles.NONE);
        Due.is("part: NONE", x.part(0, 0), ElementFiles.NONE);
        Due.is("sample: NONE", x.sample(0, 0, 0), ElementFiles.NONE);
        Due.is("detail: -65536", x.detail(0, 0), -65536);
        Due.is("index: NONE", x.index(0), ElementFiles.NONE);
        Due.is("seek: NONE", x.seek(0, 1, 0), ElementFiles.NONE);
        Due.is("jump: NONE", x.jump(0, 1, 0), ElementFiles.NONE);
        fullOnes();
        faults();
    }

    private static void fullOnes() {
        ElementFiles x = new ElementFiles();
        for (int i = 0; i < 80; i++) {
            x.feed(0, 8);
        }
        Due.is("feed: LONG", x.feed(0, 1), ElementFiles.LONG);
        int type = x.make(x.make(-1, Due.HEAD, 0), Due.TYPE, 0);
        for (int i = 0; i < 16; i++) {
            x.letter(type, 'a');
        }
        Due.is("letter: LONG", x.letter(type, 'a'), ElementFiles.LONG);
        int segment = x.make(-1, Due.SEGMENT, 0);
        int cluster = x.make(segment, Due.CLUSTER, 0);
        Due.is("block: DATA", x.block(cluster, 1, 0, true, 0), ElementFiles.DATA);
        x.frame(300, 0);
        Due.is("frame: ROOM", x.frame(101, 0), ElementFiles.ROOM);
        for (int i = 0; i < 4; i++) {
            x.block(cluster, 1, 0, true, 0);
            x.frame(300, 0);
        }
        Due.is("block: ROOM", x.block(cluster, 1, 0, true, 0), ElementFiles.ROOM);
        Due.is("write: LONG", x.write(false), ElementFiles.LONG);
        for (int i = 8; i < 60; i++) {
            x.make(-1, Due.VOID, 0);
        }
        Due.is("make: ROOM", x.make(-1, Due.VOID, 0), ElementFiles.ROOM);
        Due.is("index: ROOM", x.index(segment), ElementFiles.ROOM);
    }

    private static void faults() {
        Due.is("read: CUT", Due.fed("EC").read(), ElementFiles.CUT);
        Due.is("read: FORM", Due.fed("00").read(), ElementFiles.FORM);
        Due.is("read: MISPLACED", Due.fed("E780").read(), ElementFiles.MISPLACED);
        Due.is("read: OPEN", Due.fed("ECFF").read(), ElementFiles.OPEN);
        Due.is("read: DATA", Due.fed("1A45DFA384 42828101").read(), ElementFiles.DATA);
        Bounded x = new Bounded();
        Edge.fill(x, 122);
        Due.is("read: ROOM", x.read(), ElementFiles.ROOM);
        Due.is("where() then", x.where(), 120);
        Due.is("id(0) then", x.id(0), ElementFiles.NONE);
    }

    private static void allCallsAreTold() throws IOException {
        String readme = Files.readString(README);
        for (Method method : ElementFiles.class.getDeclaredMethods()) {
            if (Modifier.isPublic(method.getModifiers())) {
                String row = "\n| `" + method.getName() + "(";
                int at = readme.indexOf(row);
                Due.is(method.getName() + " has a row", at >= 0 ? 1 : 0, 1);
                Due.is(method.getName() + " has one row", readme.indexOf(row, at + 1), -1);
                String told = readme.substring(at + row.length(), readme.indexOf(')', at));
                Due.is("what " + method.getName() + " takes", told.isEmpty() ? 0 : told.split(", ").length,
                        method.getParameterCount());
            }
        }
    }

    private static void allTestsAreTold() throws IOException {
        String readme = Files.readString(README);
        try (DirectoryStream<Path> tests = Files.newDirectoryStream(THIS.getParent(), "*Test.java")) {
            for (Path test : tests) {
                String name = test.getFileName().toString().replace(".java", "");
                Due.is(name + " has a row", readme.contains("\n| `" + name + "` |") ? 1 : 0, 1);
            }
        }
    }

    private static void allAnswersAreTold() throws IOException {
        String readme = Files.readString(README);
        String[] names = {"NONE", "CUT", "FORM", "MISPLACED", "OPEN", "ROOM", "DATA", "LONG"};
        int[] answers = {ElementFiles.NONE, ElementFiles.CUT, ElementFiles.FORM, ElementFiles.MISPLACED,
            ElementFiles.OPEN, ElementFiles.ROOM, ElementFiles.DATA, ElementFiles.LONG};
        for (int i = 0; i < names.length; i++) {
            String cells = "| `" + names[i] + "` | " + answers[i] + " |";
            Due.is(names[i] + " is told", readme.contains(cells) ? 1 : 0, 1);
        }
    }
}
