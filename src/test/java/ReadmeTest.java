import java.io.ByteArrayOutputStream;
import java.io.IOException;
import java.io.PrintStream;
import java.lang.reflect.Member;
import java.lang.reflect.Modifier;
import java.nio.file.Files;
import java.nio.file.Path;
import java.util.ArrayList;
import java.util.List;

/** README.md: its example stands here word for word and prints what it says; it names the face. */
public final class ReadmeTest {
    public static void main(String[] args) throws IOException {
        List<String> readme = Files.readAllLines(Path.of("README.md"));
        List<String> source = Files.readAllLines(Path.of("src/test/java/ReadmeTest.java"));
        same("the example", block(readme, "```java", "```"), block(source, "// README {", "// README }"));
        same("what it prints", block(readme, "```text", "```"), printed());
        namesAll(String.join("\n", readme), LabelRoads.class.getDeclaredMethods());
        namesAll(String.join("\n", readme), LabelRoads.class.getDeclaredFields());
        Check.end();
    }

    private static void example() {
        // README {
        LabelRoads net = new LabelRoads(3);
        net.link(0, 1, 4);                          // a link with cost 4
        net.link(1, 2, 1);
        net.own(0, 2);                              // prefix 0 is owned by router 2
        net.serve(1, 2);                            // service 1 is at router 2
        net.run(400);                               // the messages come, in the order they were sent
        int fate = net.send(0, 0, 1, 64);           // from 0, prefix 0, service 1, TTL 64
        System.out.println(fate == LabelRoads.DELIVERED);
        for (int i = 0; i < net.hops(); i++) {
            int entry = net.entry(i);
            System.out.println(net.hop(i) + ": label " + entry / 4096 + ", TTL " + entry % 256);
        }
        // README }
    }

    private static List<String> printed() {
        PrintStream before = System.out;
        ByteArrayOutputStream bytes = new ByteArrayOutputStream();
        System.setOut(new PrintStream(bytes));
        example();
        System.out.flush();
        System.setOut(before);
        return bytes.toString().lines().toList();
    }

    /** The lines between the first one that is the opening and the next that is the closing one. */
    private static List<String> block(List<String> lines, String opening, String closing) {
        List<String> inside = new ArrayList<>();
        boolean open = false;
        for (String line : lines) {
            if (open && line.strip().equals(closing)) {
                return inside;
            }
            if (open) {
                inside.add(line.strip());
            }
            open = open || line.strip().equals(opening);
        }
        Check.fail("no lines between " + opening + " and " + closing);
        return inside;
    }

    private static void same(String what, List<String> inReadme, List<String> here) {
        if (inReadme.isEmpty() || !inReadme.equals(here)) {
            Check.fail(what + " in README.md is " + inReadme + ", due is " + here);
        }
    }

    private static void namesAll(String readme, Member[] members) {
        for (Member member : members) {
            if (Modifier.isPublic(member.getModifiers()) && !readme.contains("`" + member.getName())) {
                Check.fail("README.md does not name " + member.getName());
            }
        }
    }
}
