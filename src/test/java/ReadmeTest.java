import java.nio.charset.StandardCharsets;
import java.nio.file.Files;
import java.nio.file.Path;
import java.util.List;

/** The examples of README.md stand here line by line, and answer what their comments say. */
public final class ReadmeTest {
    private static final Due due = new Due();

    public static void main(String[] args) throws Exception {
        examples();
        List<String> readme = lines("README.md");
        due.at("lines of README.md's examples that don't stand in this test");
        due.is(linesThatLack(readme, lines("src/test/java/ReadmeTest.java")), 0);
        due.at("calls that README.md doesn't name");
        due.is(callsThatLack(String.join("\n", readme)), 0);
        due.end();
    }

    private static void examples() {
        AshLoans county = new AshLoans();
        int birch = county.ash(13);               // an ash: kind 1 (birch), m 3
        int anna = county.potter();
        int jon = county.potter();
        county.store(anna, birch, 40);            // anna has 40 bushels
        county.lend(anna, jon, birch, 10, 5);     // jon owes 10 of them, due behind 5 days
        due.at("the first example");
        due.is(county.ofAsh(birch, 0), 1);
        due.is(county.ofAsh(birch, 1), 3);
        due.is(county.ofLoan(0, 1), jon);
        due.is(county.ofLoan(0, 3), 10);
        int blue = county.fire(jon, 2, 4);        // jon burns two bushels at heat 4: colour 6
        due.is(blue, 6);
        int first = county.breaks(jon);           // 8 bushels are left, 10 are owed: broken behind 5 days
        due.is(first, 5);
        due.is(county.stored(jon, birch), 8);
        county.store(jon, birch, 12);             // but jon finds 4 more
        int left = county.days(5);                // the loan falls due and is given back: no loan is left
        due.is(left, 0);
        int poorer = county.stored(anna, birch);  // anna has 30, and of the 10 what the text gives, 8: 38
        due.is(poorer, 38);

        due.at("the second example");
        int fed = county.feed(0x2D6EL, 2);        // n- : two bytes are on the tape
        due.is(fed, 2);
        int fault = county.text(1);               // a text can't end there: -10 less the place 2
        due.is(fault, -12);
        county.feed(0x312D6EL, 3);                // n-1
        int taken = county.text(1);               // 1: now one bushel less is given back
        due.is(taken, 1);
        int given = county.law(1, 10, 3, 0);      // of 10 bushels 9 come back
        due.is(given, 9);
    }

    private static int linesThatLack(List<String> readme, List<String> own) {
        boolean inExample = false;
        int seen = 0;
        int lacking = 0;
        for (String line : readme) {
            if (line.startsWith("```")) {
                inExample = line.equals("```java");
            } else if (inExample) {
                seen++;
                if (!own.contains("        " + line)) {
                    lacking++;
                    System.out.println("only in README.md: " + line);
                }
            }
        }
        return seen == 0 ? -1 : lacking;
    }

    private static int callsThatLack(String readme) {
        int lacking = 0;
        for (String name : Calls.NAMES) {
            if (!readme.contains("`" + name + "(")) {
                lacking++;
                System.out.println("not in README.md: " + name);
            }
        }
        return lacking;
    }

    private static List<String> lines(String file) throws Exception {
        return Files.readAllLines(Path.of(file), StandardCharsets.UTF_8);
    }
}
