import java.io.IOException;
import java.nio.file.Files;
import java.nio.file.Path;
import java.util.List;

/** The example of README.md: each of its lines, in its order, answers as its comment says. */
public final class ReadmeTest {
    private static final Checks checks = new Checks();
    private static List<String> lines;
    private static int at;

    public static void main(String[] args) throws IOException {
        String text = Files.readString(Path.of("README.md"));
        int from = text.indexOf("```java\n") + 8;
        lines = text.substring(from, text.indexOf("```", from)).lines().toList();
        exampleAnswersAsSaid();
        checks.due("lines of the example", lines.size(), at);
        checks.end();
    }

    private static String next() {
        at++;
        return at <= lines.size() ? lines.get(at - 1) : "";
    }

    private static void plain(String code) {
        String line = next();
        checks.text("line " + at, line, code);
    }

    private static void says(String code, String answer) {
        String line = next();
        int comment = Math.max(0, line.indexOf("//"));
        checks.text("line " + at, line.substring(0, comment).trim(), code);
        String said = line.substring(comment) + ":";
        checks.text("line " + at + " says", said.substring(0, said.indexOf(':')), "// " + answer);
    }

    private static void says(String code, int answer) {
        says(code, String.valueOf(answer));
    }

    private static void exampleAnswersAsSaid() {
        LeastEdits x = new LeastEdits();
        plain("LeastEdits x = new LeastEdits();");
        int a = x.input();
        says("int a = x.input();", a);
        int b = x.input();
        says("int b = x.input();", b);
        int c = x.input();
        says("int c = x.input();", c);
        int mine = x.old(x.old(a, b), c);
        says("int mine = x.old(x.old(a, b), c);", mine);
        int due = x.asked(a, c);
        says("int due = x.asked(a, c);", due);
        x.output(mine, due);
        plain("x.output(mine, due);");
        says("x.differing();", x.differing());
        says("x.witness(0);", x.witness(0));
        x.spare(3, 4);
        plain("x.spare(3, 4);");
        says("x.run(2);", x.run(2));
        says("x.edit(0, 0);", x.edit(0, 0));
        says("x.edit(0, 1);", x.edit(0, 1));
        says("x.edit(0, 2);", x.edit(0, 2));
        says("x.used(0);", x.used(0));
        says("x.length();", x.length());
        says("x.make();", x.make());
        says("x.differing();", x.differing());
        says("x.undo();", String.valueOf(x.undo()));
    }
}
