import java.io.IOException;
import java.nio.file.Files;
import java.nio.file.Path;
import java.util.ArrayList;
import java.util.List;

/** The examples of README.md, run as they stand there. */
public final class ReadmeTest {
    private static void examples() {
        // README from here
        TagRounds air = new TagRounds();
        int tag = air.add(1, 1, 0x12340000, 0);   // READER 0 reaches it; an EPC of one word
        air.power(0, true);
        int read = air.round(0, 0, 2, 0, 100);    // all, SESSION 2, TARGET A, 100 SLOTS at most
        int who = air.log(0, 1);                  // the TAG that was READ latest
        // README to here
        Check.same("read", read, 1);
        Check.same("who", who, tag);
        // README from here
        air.query(0, 0, 3, 0, 0);                 // SESSION 3, q 0: each TAG replies at once
        int number = air.heard(0);
        air.ack(0, number);
        air.renew(0, number);
        int handle = air.heard(0);
        air.renew(0, handle);
        int cover = air.heard(0);
        air.write(0, handle, 3, 0, 77 ^ cover);
        int written = air.word(tag, 3, 0);        // 77
        // README to here
        Check.same("written", written, 77);
    }

    // The lines between such a row and such a row, without what stands ahead of all of them.
    private static List<String> between(String file, String from, String to, int margin) throws IOException {
        List<String> found = new ArrayList<>();
        boolean inside = false;
        for (String line : Files.readAllLines(Path.of(file))) {
            if (line.equals(inside ? to : from)) {
                inside = !inside;
            } else if (inside) {
                found.add(line.substring(margin));
            }
        }
        return found;
    }

    public static void main(String[] args) throws IOException {
        examples();
        List<String> told = between("README.md", "```java", "```", 0);
        List<String> run = between("src/test/java/ReadmeTest.java", "        // README from here", "        // README to here", 8);
        Check.text("the examples of README.md", String.join("\n", told), String.join("\n", run));
        Check.same("there are examples", told.size() > 10, true);
        Check.end("ReadmeTest");
    }
}
