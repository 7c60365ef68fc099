import java.util.ArrayList;
import java.util.List;
import java.util.function.Supplier;
import java.util.function.ToLongFunction;

/**
 * What a call changes, seen by two objects made alike, of which one alone gets the call. Each pair
 * is made anew, so that no object comes near its 512th call.
 */
final class Twins {
    private static final long REFUSED_LONG = 4000000000000000000L;

    private final Checks checks;

    Twins(Checks checks) {
        this.checks = checks;
    }

    /** The call is refused: it answers so, is counted so, and nothing else is otherwise than before. */
    void refused(String call, Supplier<BrideNotKnown> made, ToLongFunction<BrideNotKnown> asked, long want) {
        BrideNotKnown x = made.get();
        BrideNotKnown twin = made.get();
        checks.due(call, asked.applyAsLong(x), want);
        long number = want < 0 ? -want : want - REFUSED_LONG;
        counted(call, x, twin, number);
        checks.same(call + " changes nothing", traceOf(x), traceOf(twin));
    }

    /** The call is not refused, and what it answers is due. */
    void allowed(String call, Supplier<BrideNotKnown> made, ToLongFunction<BrideNotKnown> asked, long want) {
        BrideNotKnown x = made.get();
        BrideNotKnown twin = made.get();
        checks.due(call, asked.applyAsLong(x), want);
        counted(call, x, twin, 0);
    }

    /** The call only asks: it is not refused, and nothing is otherwise than before. */
    void asks(String call, Supplier<BrideNotKnown> made, ToLongFunction<BrideNotKnown> asked, long want) {
        allowed(call, made, asked, want);
        BrideNotKnown x = made.get();
        BrideNotKnown twin = made.get();
        asked.applyAsLong(x);
        checks.same(call + " changes nothing", traceOf(x), traceOf(twin));
    }

    private void counted(String call, BrideNotKnown x, BrideNotKnown twin, long number) {
        for (int i = 1; i <= 6; i++) {
            int more = x.count(10 + i) - twin.count(10 + i);
            checks.due(call + ": refusals -" + i, more, i == number ? 1 : 0);
        }
    }

    /** All that an object holds but its refusals; row, letters and image are used up for it. */
    static List<String> traceOf(BrideNotKnown x) {
        List<String> trace = stateOf(x);
        int brides = x.count(0);
        for (int b = 0; b < brides; b++) {
            trace.add("rightly(" + b + ") " + x.rightly(b));
            trace.add("whatIs(" + b + ") " + x.whatIs(b, 0) + " " + x.whatIs(b, 1));
        }
        trace.add("judge() " + x.judge());
        Checks.letters(x, "00;");
        trace.add("valley() " + x.valley());
        trace.addAll(stateOf(x));
        trace.add("on() " + x.on());
        trace.addAll(stateOf(x));
        return trace;
    }

    private static List<String> stateOf(BrideNotKnown x) {
        List<String> state = new ArrayList<>();
        for (int what = 0; what <= 7; what++) {
            state.add("count(" + what + ") " + x.count(what));
        }
        int brides = x.count(0);
        int grooms = x.count(1);
        for (int what = 0; what <= 5; what++) {
            for (int b = 0; b < brides; b++) {
                state.add("bride(" + b + ", " + what + ") " + x.bride(b, what));
            }
            for (int g = 0; g < grooms; g++) {
                state.add("groom(" + g + ", " + what + ") " + x.groom(g, what));
            }
        }
        return state;
    }
}
