import java.util.List;
import java.util.function.Consumer;

/**
 * Calls that ask alone leave all as it was: of two objects that were made alike one gets the call, and then all that
 * can be seen of both is compared, but for what the call tells (the FRACTION, found(), played()).
 */
public final class AskedTest {
    private static final Due due = new Due();

    public static void main(String[] args) {
        asked("status()", x -> x.status());
        asked("top()", x -> x.top());
        asked("bottom()", x -> x.bottom());
        asked("read(0, 1)", x -> due.is("read(0, 1)", x, x.read(0, 1), -7, 0));
        asked("pour(0, 0, 2, 0, 0)", x -> due.is("pour of none", x, x.pour(0, 0, 2, 0, 0), true, 0));
        asked("fault(0)", x -> x.fault(0));
        for (int i = 0; i <= 10; i++) {
            int what = i;
            asked("many(" + what + ")", x -> x.many(what));
        }
        asked("feature(0, 0)", x -> due.is("feature(0, 0)", x, x.feature(0, 0), 3, 0));
        asked("feels(1, 0, 1)", x -> due.is("feels(1, 0, 1)", x, x.feels(1, 0, 1), 4, 0));
        asked("stepOf(1, 0)", x -> due.is("stepOf(1, 0)", x, x.stepOf(1, 0), 2, 0));
        asked("key(4, 1)", x -> due.is("key(4, 1)", x, x.key(4, 1), 0, 0));
        asked("ring(0, 2)", x -> due.is("ring(0, 2)", x, x.ring(0, 2), 2, 0));
        asked("door(1, 1)", x -> due.is("door(1, 1)", x, x.door(1, 1), 9, 0));
        asked("round(1)", x -> due.is("round(1)", x, x.round(1), 1, 0));
        asked("part(1, 1)", x -> due.is("part(1, 1)", x.part(1, 1) > 0, true));
        asked("here(1)", x -> due.is("here(1)", x, x.here(1), true, 0));
        asked("opens(0)", x -> due.is("opens(0)", x, x.opens(0), true, 0));
        for (int i = 0; i <= 4; i++) {
            int k = i;
            asked("worth(0, " + k + ")", x -> due.is("worth", x, x.worth(0, k), true, 0));
            if (k > 0) asked("next(0, " + k + ")", x -> due.is("next", x.next(0, k) >= 0, true));
        }
        asked("searched(0, 0, 2, 1)", x -> due.is("searched", x, x.searched(0, 0, 2, 1), 13, 0));
        asked("from(0, 1, 0)", x -> due.is("from", x, x.from(0, 1, 0), true, 0));
        asked("anywhere(0)", x -> due.is("anywhere", x, x.anywhere(0), true, 0));
        asked("laid(0, true)", x -> due.is("laid", x, x.laid(0, true), 0, 0));
        asked("laid(0, false)", x -> due.is("laid", x, x.laid(0, false), 1, 0));
        asked("inRow(2)", x -> due.is("inRow", x, x.inRow(2), 2, 0));
        asked("walked(0)", x -> due.is("walked", x, x.walked(0), 16, 0));
        asked("laidForRound(0)", x -> due.is("laidForRound", x, x.laidForRound(0), 13, 0));
        asked("found(2)", x -> due.is("found", x, x.found(2), 2, 0));
        asked("alike(0)", x -> due.is("alike", x, x.alike(0), 0, 0));
        asked("apart(0, false)", x -> due.is("apart", x, x.apart(0, false), 1, 0));
        asked("filed(0, 2)", x -> due.is("filed", x, x.filed(0, 2), 0, 0));
        asked("known(0, false)", x -> due.is("known", x, x.known(0, false), 1, 0));
        asked("missing(1, 0, 4, 3)", x -> due.is("missing", x, x.missing(1, 0, 4, 3), true, 0));
        asked("soon(1, 0, 4, 16)", x -> due.is("soon", x, x.soon(1, 0, 4, 16), 3, 0));
        asked("newly(5, 0, 0)", x -> due.is("newly", x, x.newly(5, 0, 0), 0, 0));
        asked("play(0, 0, 7)", x -> due.is("play", x.play(0, 0, 7) >= 0, true));
        asked("tally(0, 0, 9970, 30)", x -> due.is("tally", x.tally(0, 0, 9970, 30) >= 0, true));
        asked("played(6)", x -> due.is("played", x, x.played(6), 0, 0));
        asked("mark() and back()", x -> {
            due.is("mark", x, x.mark(), 3, 0);
            due.is("back", x, x.back(), 2, 0);
        });
        due.end("AskedTest");
    }

    private static List<String> left(DarkRing x) {
        List<String> rows = Seen.toTheEnd(x);
        rows.removeIf(row -> row.startsWith("the fraction") || row.startsWith("found") || row.startsWith("played"));
        return rows;
    }

    private static void asked(String what, Consumer<DarkRing> call) {
        DarkRing x = RefusedTest.made();
        call.accept(x);
        String difference = Seen.difference(left(RefusedTest.made()), left(x));
        if (!difference.isEmpty()) System.out.println(what + ": " + difference);
        due.is(what + " leaves all as it was", difference.isEmpty(), true);
    }
}
