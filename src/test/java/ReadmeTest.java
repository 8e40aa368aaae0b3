import java.io.File;
import java.io.IOException;
import java.nio.charset.StandardCharsets;
import java.nio.file.Files;
import java.nio.file.Path;
import java.nio.file.Paths;
import java.util.ArrayList;
import java.util.List;

/**
 * What README.md says is so when one does it: its program is Example.java, each of its shell blocks but '.ci/run' ends
 * well, all in one shell and in their order, and prints what the block of text behind it shows. (.ci/run runs this test,
 * so it can't be run from here.)
 */
public final class ReadmeTest {
    private static final String ALL = ".ci/run\n";
    private static final String MARK = "==== next block ====";

    private ReadmeTest() {
    }

    public static void main(String[] args) throws IOException, InterruptedException {
        List<String[]> blocks = blocksOf(Files.readAllLines(Paths.get("README.md")));
        programIsExample(blocks);
        allIsThere(blocks);
        shellBlocksDoAsShown(blocks);
        filesAreThere();
        Check.close();
    }

    /** Kind and text of each block between three backquotes. */
    private static List<String[]> blocksOf(List<String> lines) {
        List<String[]> blocks = new ArrayList<>();
        String kind = null;
        StringBuilder text = new StringBuilder();
        for (String line : lines) {
            if (!line.startsWith("```")) {
                text.append(line).append('\n');
            } else if (kind == null) {
                kind = line.substring(3);
                text.setLength(0);
            } else {
                blocks.add(new String[] {kind, text.toString()});
                kind = null;
            }
        }
        Check.due("README.md: a block is open at its end", false, kind != null);
        return blocks;
    }

    private static void programIsExample(List<String[]> blocks) throws IOException {
        String example = read(Paths.get("src/test/java/Example.java"));
        int shown = 0;
        for (String[] block : blocks) {
            if (block[0].equals("java")) {
                shown++;
                Check.same("README.md's program is Example.java", example, block[1]);
            }
        }
        Check.due("README.md: programs shown", 1, shown);
    }

    private static void allIsThere(List<String[]> blocks) {
        int shown = 0;
        for (String[] block : blocks) {
            if (block[0].equals("sh") && block[1].equals(ALL)) {
                shown++;
            }
        }
        Check.due("README.md: blocks that run all tests", 1, shown);
        Check.due(".ci/run can be executed", true, new File(".ci/run").canExecute());
    }

    private static void shellBlocksDoAsShown(List<String[]> blocks) throws IOException, InterruptedException {
        StringBuilder script = new StringBuilder("set -e\n");
        List<String> dos = new ArrayList<>();
        List<String> shown = new ArrayList<>();
        for (int i = 0; i < blocks.size(); i++) {
            String[] block = blocks.get(i);
            if (block[0].equals("sh") && !block[1].equals(ALL)) {
                script.append(block[1]).append("echo '").append(MARK).append("'\n");
                dos.add(block[1]);
                boolean hasText = i + 1 < blocks.size() && blocks.get(i + 1)[0].equals("text");
                shown.add(hasText ? blocks.get(i + 1)[1] : null);
            }
        }
        String[] printed = runInShell(script.toString()).split(MARK + "\n", -1);
        // What stands behind the last mark is of no block: so there is one part more than blocks, if all ended well.
        Check.due("README.md: shell blocks that ended well", dos.size(), printed.length - 1);
        for (int i = 0; i < dos.size() && i < printed.length; i++) {
            if (i == printed.length - 1) {
                System.out.println("this block did not end well:\n" + dos.get(i) + printed[i]);
            } else if (shown.get(i) != null) {
                Check.same("README.md: " + dos.get(i), shown.get(i), printed[i]);
            }
        }
    }

    private static String runInShell(String script) throws IOException, InterruptedException {
        Path room = Files.createTempDirectory("readme");
        ProcessBuilder builder = new ProcessBuilder("sh", "-c", script).redirectErrorStream(true);
        // So what the page makes by mktemp is in one place, which is taken away behind it.
        builder.environment().put("TMPDIR", room.toString());
        Process process = builder.start();
        String printed = new String(process.getInputStream().readAllBytes(), StandardCharsets.UTF_8);
        Check.due("README.md: exit code of its shell blocks", 0, process.waitFor());
        remove(room.toFile());
        return printed;
    }

    private static void remove(File file) {
        File[] inside = file.listFiles();
        if (inside != null) {
            for (File one : inside) {
                remove(one);
            }
        }
        Check.due("removed " + file, true, file.delete());
    }

    private static void filesAreThere() throws IOException {
        for (String word : read(Paths.get("README.md")).split("[^A-Za-z0-9_./*]+")) {
            boolean isTestFile = word.matches("[A-Za-z]+\\.java");
            if (word.startsWith("src/") && !word.contains("*") || word.startsWith("../shared/") && !word.contains("*")) {
                Check.due("README.md names a file that is there: " + word, true, new File(word).exists());
            } else if (isTestFile && !word.equals("DyerBells.java")) {
                Check.due("README.md names a test that is there: " + word, true,
                    new File("src/test/java/" + word).exists());
            }
        }
    }

    private static String read(Path path) throws IOException {
        return new String(Files.readAllBytes(path), StandardCharsets.UTF_8);
    }
}
