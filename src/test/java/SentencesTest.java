import java.nio.charset.StandardCharsets;
import java.nio.file.Files;
import java.nio.file.Path;
import java.util.ArrayList;
import java.util.List;

/** All promises, sentence by sentence; and that no sentence of the document's is left out. */
public final class SentencesTest {
    private SentencesTest() {
    }

    public static void main(String[] args) throws Exception {
        BoundsOfPlayers.all();
        BoundsOfInns.all();
        BoundsOfGames.all();
        BoundsOfBooks.all();
        BoundsOfActs.all();
        Refusals.all();
        Path document = Path.of("../shared/DOC.md");
        if (Files.isReadable(document)) {
            noneIsLeftOut(Files.readString(document, StandardCharsets.UTF_8));
        }
        Check.end("SentencesTest");
    }

    /** Every word of the terms and of the promises stands in a sentence that a test has named. */
    private static void noneIsLeftOut(String document) {
        String text = plain(document);
        Check.aboutNone();
        List<String> sentences = new ArrayList<>(Check.sentences());
        // The longest first, as one may stand in another one.
        sentences.sort((a, b) -> b.length() - a.length());
        String left = text;
        for (String sentence : sentences) {
            Check.due("stands in the document: " + sentence, text.contains(sentence) ? 1 : 0, 1);
            left = left.replace(sentence, "\n");
        }
        for (String words : left.split("\n")) {
            Check.due("no test names", words.trim(), "");
        }
    }

    /** From the first promise of all to the last, without headings, signatures and line ends. */
    private static String plain(String document) {
        int from = Math.max(0, document.indexOf("An object is used for"));
        int to = Math.max(from, document.indexOf("## Not promised"));
        StringBuilder plain = new StringBuilder();
        boolean face = false;
        for (String line : document.substring(from, to).split("\n")) {
            face = line.startsWith("```java") || face && !line.equals("```");
            if (!face && !line.startsWith("#") && !line.startsWith("```") && !line.startsWith("Ahead of the calls")) {
                plain.append(line.replaceAll("^`[^`]*\\)`: ", "").replaceAll("^==== \\d ", "").trim()).append(' ');
            }
        }
        return plain.toString().replaceAll(" +", " ");
    }
}
