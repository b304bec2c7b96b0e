import java.io.IOException;
import java.nio.file.Path;
import java.util.ArrayList;
import java.util.List;

/**
 * Tests of the document's boundaries. Each bears the sentence that it tests as its name: the
 * heading under which it stands in ../shared/DOC.md, and its words.
 */
final class Edges {
    private final Due due = new Due("EdgesTest");
    private final Doc doc;
    private final Run rich;
    private String name = "";
    private int answers = 0;
    private int sentences = 0;

    Edges() throws IOException {
        doc = new Doc(Path.of("../shared/DOC.md"));
        rich = richDay();
    }

    /** A day with CABS of every kind, PASSES, TICKETS, CHANCES, PEOPLE, READINGS, WISHES, images and a text. */
    Run rich() {
        return rich;
    }

    private static Run richDay() {
        return Run.inCity("rank a 10 2 2;rank b 30 1 3;rank c 50 9 9;fare 100 20 3 5;short 15 90;coin 50;"
                        + "let b 0 0 23;let b 1 1 2;let c 2 0 0;")
                .then("cab(0, 10); cab(1, 10); cab(0, 10); cab(0, 30); cab(0, 30); cab(2, 50); cab(2, 50)")
                .then("cab(3, 70); cab(0, 90); cab(1, 20); drive(0, 0); drive(1, 0); drive(2, 0); drive(3, 1)")
                .then("drive(4, 1); drive(5, 2); drive(6, 2); drive(8, 0); take(0, 5, 10); go(5); drive(0, 0)")
                .then("take(2, 40, 0); refuse(1); call(2, 7, 99); change(0, 1); take(1, 9, 30)")
                .then("chance(0, 8, 12, 1); chance(1, 16, 5, 2); chance(2, 3, 60, 0)")
                .then("people(0, 1); people(1, 4); reading(0, 1, 326); reading(1, 2, 4); reading(0, 5, 598)")
                .then("wish(1, 1); wish(3, 0); wish(6, 0); image(0); go(1); image(1)")
                .text("rank x 5 1");
    }

    /** The test of one sentence begins. */
    Edges sentence(String section, String words) {
        endSentence();
        name = section + ": \"" + words + "\"";
        sentences++;
        due.is(name + " stands in the document", doc.quote(section, words), true);
        return this;
    }

    /** A sentence of the document that names no boundary. */
    void noBoundary(String section, String words) {
        due.is(section + ": \"" + words + "\" stands in the document", doc.quote(section, words), true);
    }

    private void endSentence() {
        if (!name.isEmpty()) {
            System.out.println(name + ": " + answers + " answers");
            due.is(name + " is tested", answers > 0, true);
        }
        answers = 0;
    }

    void close() {
        endSentence();
        due.is("headings in the document", doc.size(), 38);
        for (String words : doc.unquoted()) {
            due.is("a test quotes " + words, false, true);
        }
        System.out.println(sentences + " sentences");
        due.close();
    }

    /** Calls with the answers due, "cab(0, 99) -> 0; of(0, 1) -> 99", one after the other behind a run. */
    Edges answers(Run run, String lines) {
        askAll(run.play(), lines);
        return this;
    }

    Edges value(String what, int got, int want) {
        answers++;
        due.is(name + ": " + what, got, want);
        return this;
    }

    private void askAll(Run.Played x, String lines) {
        for (String line : Run.split(lines)) {
            String[] sides = line.split("->");
            answers++;
            due.is(name + ": " + sides[0].trim(), x.ask(sides[0].trim()), Run.number(sides[1].trim()));
        }
    }

    /** The same, and nothing that can be asked, then or later, is answered in another way than before. */
    Edges refuses(Run run, String lines) {
        for (List<String> questions : Seen.QUESTIONS) {
            Run.Played x = run.play();
            int[] before = x.ask(questions);
            askAll(x, lines);
            compare(lines, questions, before, x.ask(questions));
        }
        for (List<String> future : Seen.FUTURES) {
            Run.Played without = run.play();
            Run.Played with = run.play();
            askAll(with, lines);
            compare(lines, future, without.ask(future), with.ask(future));
        }
        return this;
    }

    private void compare(String lines, List<String> calls, int[] before, int[] after) {
        answers++;
        due.is(name + ": as many answers", after.length, before.length);
        for (int k = 0; k < before.length; k++) {
            if (before[k] != after[k]) {
                due.is(name + ": " + calls.get(k) + " after " + lines, after[k], before[k]);
            }
        }
    }

    /** A text that is a CITY with so many RANKS. */
    Edges city(String text, int ranks) {
        return answers(Run.onNew().text(text), "fault() -> NONE; city() -> " + ranks + "; count(5) -> 0;"
                + " count(0) -> " + ranks);
    }

    /** A text with its FAULT behind the sign ^; that it isn't taken changes nothing in the CITY there is. */
    Edges fault(String marked) {
        int place = marked.indexOf('^');
        String text = marked.substring(0, place) + marked.substring(place + 1);
        answers(Run.onNew().text(text), "fault() -> " + place + "; city() -> NONE; count(5) -> " + text.length());
        Run day = Run.inCity("rank o 7 2 2;rank p 9 2 2;fare 5 5 5 5;let p 1 1 1;").standing(2, 0, 7)
                .then("refuse(0); go(3); people(0, 2); image(0)").text(text);
        Run.Played x = day.play();
        List<String> questions = new ArrayList<>(Seen.QUESTIONS.get(0));
        int[] before = x.ask(questions);
        askAll(x, "fault() -> " + place + "; city() -> NONE; back(0) -> true");
        compare("city() with " + marked, questions, before, x.ask(questions));
        return this;
    }
}
