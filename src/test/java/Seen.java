import java.util.ArrayList;
import java.util.List;

/**
 * What can be asked of an object: groups of questions that change nothing, each small enough to
 * be asked twice of one object, and runs of calls that bring to light what no question shows.
 */
final class Seen {
    static final List<List<String>> QUESTIONS = List.of(rows(), cabs(), passes(0, 20), passes(20, 40), plates(),
            worths(), thumbs(), people(), book());
    static final List<List<String>> FUTURES = List.of(images(0), images(1), images(2), day(), zones(),
            tickets(0, 10, false), tickets(0, 10, true), tickets(1, 30, false), tickets(1, 30, true), ring(), text(), newCity());

    private Seen() {
    }

    private static List<String> rows() {
        List<String> all = new ArrayList<>();
        for (int what = 0; what < 8; what++) {
            all.add("count(" + what + ")");
        }
        for (int rank = 0; rank < 6; rank++) {
            for (int what = 0; what < 5; what++) {
                all.add("rank(" + rank + ", " + what + ")");
            }
            for (int k = 0; k < 17; k++) {
                all.add("row(" + rank + ", " + k + ")");
            }
        }
        all.addAll(Run.split("fault(); rings(); earned(0); earned(1); earned(2); brought(0); brought(1)"));
        return all;
    }

    private static List<String> cabs() {
        List<String> all = new ArrayList<>();
        for (int cab = 0; cab < 16; cab++) {
            for (int what = 0; what < 10; what++) {
                all.add("of(" + cab + ", " + what + ")");
            }
        }
        return all;
    }

    private static List<String> passes(int from, int to) {
        List<String> all = new ArrayList<>(List.of("pass(NONE, 0)"));
        for (int k = from; k < to; k++) {
            for (int what = 0; what < 5; what++) {
                all.add("pass(" + k + ", " + what + ")");
            }
        }
        return all;
    }

    private static List<String> plates() {
        List<String> all = new ArrayList<>();
        for (int rank = 0; rank < 6; rank++) {
            for (int zone = 0; zone < 4; zone++) {
                for (int hour : new int[] {0, 1, 2, 12, 22, 23}) {
                    all.add("may(" + rank + ", " + zone + ", " + hour + ")");
                }
            }
        }
        return all;
    }

    private static List<String> worths() {
        List<String> all = new ArrayList<>();
        for (int rank = 0; rank < 6; rank++) {
            for (int ahead : new int[] {0, 1, 4, 9}) {
                for (int left : new int[] {1, 2, 9, 20, 61, 120}) {
                    all.add("worth(" + rank + ", " + ahead + ", " + left + ")");
                }
            }
        }
        return all;
    }

    private static List<String> thumbs() {
        List<String> all = new ArrayList<>();
        for (int place : new int[] {0, 10, 40, 99}) {
            for (int left : new int[] {0, 1, 30, 120}) {
                for (int what = 0; what < 2; what++) {
                    all.add("going(" + place + ", " + left + ", " + what + ")");
                    for (int thumb = 0; thumb < 3; thumb++) {
                        all.add("thumb(" + thumb + ", " + place + ", " + left + ", " + what + ")");
                    }
                }
            }
        }
        return all;
    }

    private static List<String> people() {
        List<String> all = new ArrayList<>();
        for (int hour : new int[] {0, 1, 12, 23}) {
            for (int lifted : new int[] {0, 1, 2, 3, 4, 7, 255}) {
                all.add("dead(" + hour + ", " + lifted + ")");
            }
            for (int most : new int[] {0, 50, 150, 2000}) {
                all.add("toLift(" + hour + ", " + most + ")");
            }
        }
        for (int minutes : new int[] {1, 2, 15, 240}) {
            for (int waited : new int[] {0, 1, 240}) {
                all.add("price(" + minutes + ", " + waited + ")");
            }
        }
        return all;
    }

    private static List<String> book() {
        List<String> all = new ArrayList<>();
        for (int reading = 0; reading < 12; reading++) {
            all.add("cant(" + reading + ")");
            for (int what = 0; what < 3; what++) {
                all.add("jumpers(" + reading + ", " + what + ")");
            }
        }
        return all;
    }

    private static List<String> images(int k) {
        List<String> all = new ArrayList<>(List.of("back(" + k + ")"));
        all.addAll(rows());
        all.addAll(cabs());
        return all;
    }

    /** All that DRIVE or are BUSY come; all drive back to a RANK, at which TICKETS count. */
    private static List<String> day() {
        List<String> all = new ArrayList<>(Run.split("reading(0, MAX, 1); cab(1, 10); go(20)"));
        for (int rank = 0; rank < 3; rank++) {
            all.add("take(" + rank + ", 1, 10)");
            all.add("refuse(" + rank + ")");
        }
        all.add("go(60)");
        for (int cab = 0; cab < 16; cab++) {
            all.add("drive(" + cab + ", " + cab % 2 + ")");
        }
        all.add("go(90)");
        all.addAll(rows());
        all.addAll(passes(0, 10));
        return all;
    }

    /** Most become EMPTY at one place, where DEAD and the RANKS that let them in tell their ZONES. */
    private static List<String> zones() {
        List<String> all = new ArrayList<>();
        for (int k = 0; k < 12; k++) {
            all.add("take(" + k % 3 + ", 1, 40)");
        }
        all.addAll(Run.split("go(300); dead(0, 0); dead(1, 0); dead(12, 0); dead(23, 0)"));
        for (int cab = 0; cab < 16; cab++) {
            all.add("drive(" + cab + ", " + (1 + cab % 2) + ")");
        }
        all.add("go(60)");
        all.addAll(rows());
        return all;
    }

    /** One comes back by TICKET, behind those who came so; with a REFUSED one left behind it, too. */
    private static List<String> tickets(int rank, int place, boolean refused) {
        List<String> all = new ArrayList<>();
        if (refused) {
            all.add("refuse(" + rank + ")");
        }
        all.addAll(Run.split("take(" + rank + ", 1, " + place + "); go(1)"));
        for (int cab = 0; cab < 16; cab++) {
            all.add("drive(" + cab + ", " + rank + ")");
        }
        all.addAll(rows());
        return all;
    }

    private static List<String> ring() {
        List<String> all = new ArrayList<>(Run.split("turn()"));
        for (int cab = 0; cab < 16; cab++) {
            all.add("wish(" + cab + ", " + (cab + 1) % 3 + ")");
        }
        all.add("turn()");
        all.addAll(rows());
        all.addAll(cabs());
        return all;
    }

    private static List<String> text() {
        return Run.split("feed(0, 0, 0, 0, 0); fault(); end(0); feed(0, 0, 0, 0, 0); fault(); count(5)");
    }

    /** What a CITY that comes of the text at hand has. */
    private static List<String> newCity() {
        List<String> all = new ArrayList<>(Run.split("city()"));
        all.addAll(rows());
        all.addAll(plates());
        all.addAll(people());
        return all;
    }
}
