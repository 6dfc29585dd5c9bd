import java.io.IOException;
import java.nio.file.Files;
import java.nio.file.Path;

/** What README.md shows is what the class answers: each row is there as it is called here. */
public final class ReadmeTest {
    private static final Check CHECK = new Check();

    public static void main(String[] args) throws IOException {
        String readme = Files.readString(Path.of("README.md"));
        WaveRing x = new WaveRing();
        row(readme, "feed(0x73656174, 0x7320383b, 0x20666577, 0x20302074, 0x6f20303b)",
            x.feed(0x73656174, 0x7320383b, 0x20666577, 0x20302074, 0x6f20303b));
        row(readme, "end(20)", x.end(20));
        row(readme, "ring()", x.ring());
        row(readme, "tryNow()", x.tryNow());
        row(readme, "run(3)", x.run(3));
        row(readme, "seat(1, 0)", x.seat(1, 0));
        row(readme, "wide()", x.wide());
        row(readme, "dies()", x.dies());
        row(readme, "lives(0, 1)", x.lives(0, 1));
        row(readme, "film(0, 1L)", x.film(0, 1L));
        row(readme, "film(1, 6L)", x.film(1, 6L));
        row(readme, "fits(0)", x.fits(0));
        CHECK.due("rows of calls in README.md", readme.split("\nx\\.").length - 1, 12);
        CHECK.finish();
    }

    private static void row(String readme, String call, int answer) {
        int at = readme.indexOf("\nx." + call + ";");
        String line = at < 0 ? "" : readme.substring(at + 1, readme.indexOf('\n', at + 1));
        CHECK.due("README.md shows of " + call + ": " + line + " as " + answer, line.contains("// " + answer + ":"), true);
    }
}
