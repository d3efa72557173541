import java.io.IOException;
import java.nio.file.Files;
import java.nio.file.Path;
import java.util.ArrayList;
import java.util.List;

/** The examples of README.md answer what README.md says, and every call of the face is told there. */
final class ReadmeTest {
    private static final String[] FACE = {"feed", "end", "take", "picture", "put", "set", "scan", "clear", "restart",
        "write", "out", "read", "errorAt", "look", "component", "coefficient", "sample", "known"};

    private ReadmeTest() {
    }

    public static void main(String[] args) throws IOException {
        List<String> readme = Files.readAllLines(Path.of("README.md"));
        everyCallIsTold(readme);
        everyTestIsTold(readme);
        progressive();
        lossless();
        bytesFromElsewhere();
        Due.end();
    }

    private static void everyCallIsTold(List<String> readme) {
        for (String name : FACE) {
            Due.is("rows of README.md that tell " + name, rowsOf(readme, "| `" + name + "("), 1);
        }
    }

    private static int rowsOf(List<String> readme, String beginning) {
        int rows = 0;
        for (String line : readme) {
            rows += line.startsWith(beginning) ? 1 : 0;
        }
        return rows;
    }

    private static void everyTestIsTold(List<String> readme) throws IOException {
        String text = String.join("\n", readme);
        for (String name : testNames()) {
            Due.yes("README.md tells " + name, text.contains("`" + name + "`"));
        }
    }

    private static List<String> testNames() throws IOException {
        List<String> names = new ArrayList<>();
        try (var files = Files.list(Path.of("src/test/java"))) {
            files.forEach(file -> names.add(file.getFileName().toString().replace(".java", "")));
        }
        return names;
    }

    private static void progressive() {
        ScanDesk desk = new ScanDesk();
        Due.yes("picture", desk.picture(1, 8, 8, 8, 1, 1, 1));
        Due.yes("put", desk.put(0, 0, 0, 5));
        Due.yes("put", desk.put(0, 0, 1, -3));
        Due.is("the DC", desk.scan(1, 0, 0, 0, 1), 1);
        Due.is("the band", desk.scan(1, 1, 63, 0, 0), 2);
        Due.is("the last bit", desk.scan(1, 0, 0, 1, 0), 3);
        int bytes = desk.write();
        Due.is("the last byte", desk.out(bytes - 1), 0xD9);
        Due.is("take", desk.take(), bytes);
        Due.is("read", desk.read(), 3);
        Due.is("the DC read", desk.coefficient(0, 0, 0), 5);
        Due.is("the other read", desk.coefficient(0, 0, 1), -3);
        Due.is("known", desk.known(0, 0), 0);
    }

    private static void lossless() {
        ScanDesk desk = new ScanDesk();
        Due.yes("picture", desk.picture(2, 4, 6, 12, 3, 1, 1));
        Due.yes("set", desk.set(2, 3, 5, 4095));
        Due.yes("restart", desk.restart(8));
        Due.is("two components", desk.scan(3, 7, 0, 0, 0), 1);
        Due.is("one component", desk.scan(4, 1, 0, 0, 2), 2);
        int bytes = desk.write();
        Due.is("take", desk.take(), bytes);
        Due.is("read", desk.read(), 2);
        Due.is("sample", desk.sample(2, 3, 5), 4092);
        Due.is("known", desk.known(2, 0), 2);
    }

    private static void bytesFromElsewhere() {
        ScanDesk desk = new ScanDesk();
        feedSeventeen(desk);
        Due.is("end", desk.end(17), 17);
        Due.is("read", desk.read(), 0);
        feedSeventeen(desk);
        Due.is("end", desk.end(16), 16);
        Due.is("read", desk.read(), -1);
        Due.is("errorAt", desk.errorAt(), 16);
        Due.is("width", desk.look(1), 8);
    }

    private static void feedSeventeen(ScanDesk desk) {
        Due.is("feed", desk.feed(0xFFD8FFC2, 0x000B0800, 0x08000801, 0x011100FF, 0xD9000000), 20);
    }
}
