import java.io.IOException;
import java.nio.file.Files;
import java.nio.file.Path;
import java.util.ArrayList;
import java.util.LinkedHashMap;
import java.util.List;
import java.util.Map;

/**
 * Runs the tests of the document's sentences; each sentence has one of its own. An argument picks those whose heading
 * begins with it, a number the one at this place. That no word of the document is left out is tested, too.
 */
public final class SentencesTest {
    private static final Path DOCUMENT = Path.of("../shared/DOC.md");
    /** Lines that only divide the document. */
    private static final List<String> DIVISIONS = List.of("Flights, riders", "The way, the fares");

    public static void main(String[] args) throws IOException {
        List<Sentence> all = all();
        int made = 0;
        boolean good = true;
        for (int i = 0; i < all.size(); i++) {
            if (args.length == 0 || isMeant(args[0], i, all.get(i))) {
                made++;
                good &= holds(i, all.get(i));
            }
        }
        Check check = new Check("SentencesTest");
        check.holds("each sentence", good);
        check.holds("some of " + all.size() + " sentences were tested: " + made, made > 0);
        if (args.length == 0) {
            wholeDocument(check, all);
        }
        System.out.println("SentencesTest: " + made + " sentences");
        check.end();
    }

    private static boolean isMeant(String argument, int place, Sentence sentence) {
        return argument.equals(String.valueOf(place)) || sentence.heading().startsWith(argument);
    }

    static List<Sentence> all() {
        List<Sentence> all = new ArrayList<>();
        all.addAll(TermsSentences.all());
        all.addAll(VansSentences.all());
        all.addAll(PadSentences.terms());
        all.addAll(ChangeSentences.all());
        all.addAll(QuestionSentences.all());
        all.addAll(WhatIfSentences.all());
        all.addAll(PadSentences.promises());
        all.addAll(HistorySentences.all());
        return all;
    }

    private static boolean holds(int place, Sentence sentence) {
        Check check = new Check("sentence " + place);
        try {
            sentence.test().accept(check);
        } catch (RuntimeException | StackOverflowError thrown) {
            check.holds("no call throws, but one did: " + thrown, false);
        }
        if (!check.isGood()) {
            System.out.println("BROKEN: sentence " + place + ", of " + sentence.heading() + ": " + sentence.words());
        }
        return check.isGood();
    }

    /** All words of the terms and the promises stand in a sentence that is tested, and those tested stand in the document. */
    private static void wholeDocument(Check check, List<Sentence> all) throws IOException {
        Map<String, StringBuilder> sections = sections(Files.readAllLines(DOCUMENT));
        for (Sentence s : all) {
            StringBuilder section = sections.get(s.heading());
            check.holds("there is a heading " + s.heading(), section != null);
            int at = section == null ? -1 : section.indexOf(s.words());
            check.holds(s.heading() + " has the words: " + s.words(), at >= 0);
            if (at >= 0) {
                section.replace(at, at + s.words().length(), " ".repeat(s.words().length()));
            }
        }
        for (Map.Entry<String, StringBuilder> section : sections.entrySet()) {
            boolean tested = section.getKey().equals("Terms") || section.getKey().startsWith("Promise");
            String left = section.getValue().toString().trim();
            check.holds(section.getKey() + " is tested as a whole; left is: " + left, !tested || left.isEmpty());
        }
    }

    private static Map<String, StringBuilder> sections(List<String> lines) {
        Map<String, StringBuilder> sections = new LinkedHashMap<>();
        StringBuilder section = new StringBuilder();
        for (String line : lines) {
            if (line.startsWith("## ")) {
                section = new StringBuilder();
                sections.put(line.substring(3).trim(), section);
            } else if (!line.startsWith("#") && !DIVISIONS.contains(line.trim())) {
                section.append(section.length() == 0 || line.isBlank() ? "" : " ").append(line.trim());
            }
        }
        return sections;
    }
}
