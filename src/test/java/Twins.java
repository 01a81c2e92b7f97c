import java.util.ArrayList;
import java.util.List;
import java.util.function.Supplier;
import java.util.function.ToLongFunction;

/**
 * Two desks of the same making, of which one is asked a call that must change nothing: from then on
 * both must answer alike. The digest alone would not do, as it tells the names' order only.
 */
final class Twins {
    private static final String[] NAMED = {Due.BK7, Due.F2, Due.SF10, Due.LAK9, Due.FK51};
    private static final int PROBE_CALLS = 7;
    private static final int NAME_CALLS = 150;
    private static final int ROUND_CALLS = 2;
    // Behind so many rounds even a full desk has neither lenses nor glasses.
    private static final int ROUNDS = 28;

    private final Due due;
    private final Supplier<CountedDesk> made;

    Twins(Due due, Supplier<CountedDesk> made) {
        this.due = due;
        this.made = made;
    }

    void unchanged(String call, ToLongFunction<CountedDesk> asked, long answer) {
        CountedDesk with = made.get();
        CountedDesk without = made.get();
        due.due(call, asked.applyAsLong(with), answer);
        int left = with.callsLeft();
        List<Long> got = whatFollows(with, left);
        List<Long> want = whatFollows(without, left);
        for (int at = 0; at < want.size(); at++) {
            due.due("behind " + call + ", answer " + at, got.get(at), want.get(at));
        }
    }

    private static List<Long> whatFollows(CountedDesk desk, int calls) {
        List<Long> answers = new ArrayList<>();
        int left = calls;
        if (left >= PROBE_CALLS) {
            left -= PROBE_CALLS;
            probe(desk, answers);
        }
        if (left >= NAME_CALLS + ROUNDS * ROUND_CALLS) {
            left -= NAME_CALLS;
            askNames(desk, answers);
        }
        takeApart(desk, Math.min(ROUNDS, left / ROUND_CALLS), answers);
        return answers;
    }

    private static void probe(CountedDesk desk, List<Long> answers) {
        answers.add(desk.digest());
        answers.add(desk.errorPosition());
        answers.add(desk.addGlass());
        answers.add(desk.append('A'));
        answers.add(desk.clearBuffer());
        answers.add(desk.addPlate(777777));
        answers.add(desk.digest());
    }

    private static void askNames(CountedDesk desk, List<Long> answers) {
        for (String glass : NAMED) {
            answers.add(Due.add(desk, glass));
        }
    }

    private static void takeApart(CountedDesk desk, int rounds, List<Long> answers) {
        boolean isLensLeft = true;
        for (int round = 0; round < rounds; round++) {
            long answer = isLensLeft ? desk.removeLens(0) : desk.removeGlass(0);
            isLensLeft = isLensLeft && answer > 0;
            answers.add(answer);
            answers.add(desk.digest());
        }
    }
}
