import java.io.IOException;
import java.nio.file.Files;
import java.nio.file.Path;

/** README.md's example answers what README.md says, and the files that it names are there, and all tests are named. */
public final class ReadmeTest {
    private static final Due due = new Due("ReadmeTest");

    private static String readme;
    private static int at;

    public static void main(String[] args) throws IOException {
        readme = Files.readString(Path.of("README.md"));
        example();
        names();
        due.end();
    }

    /** Its lines stand in README.md, one behind another. */
    private static void line(String line) {
        int found = readme.indexOf("\n" + line, at);
        due.same("in its place: " + line, found >= at, true);
        at = Math.max(at, found + 1);
    }

    private static void example() {
        line("MendedWithTheWord vase = new MendedWithTheWord();   // four pieces, nobody, no seams");
        MendedWithTheWord vase = new MendedWithTheWord();
        due.is("four pieces", vase.told(0, 1), 4);
        due.is("nobody", vase.count(0), 0);
        due.is("no seams", vase.count(1), 0);
        line("vase.set(1, 0, 3);                                  // three pieces");
        vase.set(1, 0, 3);
        due.is("three pieces", vase.told(0, 1), 3);
        line("int ann = vase.person(0, 0);                        // a person");
        int ann = vase.person(0, 0);
        due.is("a person", vase.told(ann, 6), 0);
        line("int tom = vase.person(1, 4);                        // a lover, number 4");
        int tom = vase.person(1, 4);
        due.is("a lover", vase.told(tom, 6), 1);
        due.is("number 4", vase.told(tom, 2), 4);
        line("vase.seam(1, ann, 203);                             // between 0 and 1, broken by ann in tone 20 with force 3");
        due.is("a seam", vase.seam(1, ann, 203), 0);
        line("vase.seam(12, tom, 261);                            // between 1 and 2, by tom in tone 26 with force 1");
        due.is("another", vase.seam(12, tom, 261), 1);
        line("vase.vase(4);                                       // in how many parts it could be: 1");
        due.is("in how many parts it could be", vase.vase(4), 1);
        line("vase.fewest(0);                                     // who must come, as bits: 3");
        due.is("who must come", vase.fewest(0), 3);
        line("vase.call(ann);                                     // 1 seam is mended");
        due.is("1 seam is mended", vase.call(ann), 1);
        line("vase.call(tom);                                     // 1 seam is mended");
        due.is("1 seam is mended", vase.call(tom), 1);
        line("vase.vase(1);                                       // 1: it is whole");
        due.is("it is whole", vase.vase(1), 1);
    }

    private static void names() throws IOException {
        due.same("how the tests are run", readme.contains("\n    .ci/run\n"), true);
        for (String name : new String[] {"../shared/DOC.md", "../shared/LANGUAGE.md", "../shared/tests",
            "src/main/java/MendedWithTheWord.java", ".ci/run"}) {
            due.same("README.md names " + name, readme.contains(name), true);
            due.same("is there: " + name, name.startsWith("../") || Files.exists(Path.of(name)), true);
        }
        try (var files = Files.list(Path.of("src/test/java"))) {
            for (Path file : files.sorted().toList()) {
                String name = file.getFileName().toString().replace(".java", "");
                due.same("README.md names " + name, !name.endsWith("Test") || readme.contains("`" + name + "`"), true);
            }
        }
    }
}
