import java.nio.file.Files;
import java.nio.file.Path;
import java.util.List;

/** README.md's example: each call answers what stands behind it there. Runs in the project's folder. */
public final class ReadmeTest {
    private static List<String> lines;
    private static int at;
    private static int calls;

    private ReadmeTest() {
    }

    public static void main(String[] args) throws Exception {
        lines = Files.readAllLines(Path.of("README.md"));
        CloneVolumes x = new CloneVolumes();
        makeStore(x);
        actAndRead(x);
        askAndSee(x);
        byte[] image = Check.image(x);
        same("Check.on(x, image)", Check.on(x, image));
        same("x.undo()", x.undo());
        same("x.status(4)", x.status(4));
        Check.due("calls that README.md shows with an answer", lines.stream().filter(s -> s.matches("(x|Check)\\..*; +// .*")).count(), calls);
        Check.close();
    }

    private static void makeStore(CloneVolumes x) {
        same("x.feed(0x626c6f63, 0x6b732038, 0x20726f6f, 0x6d20333b, 0x766f6c75)",
            x.feed(0x626c6f63, 0x6b732038, 0x20726f6f, 0x6d20333b, 0x766f6c75));
        same("x.feed(0x6d652076, 0x3b202020, 0x20202020, 0x20202020, 0x20202020)",
            x.feed(0x6d652076, 0x3b202020, 0x20202020, 0x20202020, 0x20202020));
        same("x.end(25)", x.end(25));
        same("x.store()", x.store());
    }

    private static void actAndRead(CloneVolumes x) {
        same("x.put(0, 10, 7)", x.put(0, 10, 7));
        same("x.read(0, 10)", x.read(0, 10));
        same("x.copy(0)", x.copy(0));
        same("x.put(1, 10, 8)", x.put(1, 10, 8));
        same("x.read(0, 10)", x.read(0, 10));
        same("x.differs(0, 1, 0)", x.differs(0, 1, 0));
        same("x.checkpoint()", x.checkpoint());
        same("x.put(0, 20, 1)", x.put(0, 20, 1));
        same("x.has(3)", x.has(3));
        same("x.crash()", x.crash());
        same("x.read(0, 20)", x.read(0, 20));
        same("x.undo()", x.undo());
        same("x.read(0, 20)", x.read(0, 20));
    }

    private static void askAndSee(CloneVolumes x) {
        same("Check.ask(x, \"often fresh = 1\")", Check.ask(x, "often fresh = 1"));
        same("Check.ask(x, \"first count > ;\")", Check.ask(x, "first count > ;"));
        same("x.fault(0)", x.fault(0));
        same("x.fault(1)", x.fault(1));
        same("Check.see(x, 10, 8)", Check.see(x, 10, 8));
        same("x.fits(-1)", x.fits(-1));
        same("x.fits(0)", x.fits(0));
    }

    /** The call stands in README.md behind those looked at so far, with this answer. */
    private static void same(String call, Object answer) {
        calls++;
        while (at < lines.size() && !lines.get(at).startsWith(call + ";")) {
            at++;
        }
        String told = at < lines.size() ? lines.get(at).replaceAll(".*// ([^:]*).*", "$1").trim() : "nothing";
        Check.due("README.md tells of " + call + ": " + told, told.equals(answer.toString()), true);
        at++;
    }
}
