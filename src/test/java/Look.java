import java.util.ArrayList;
import java.util.List;

/**
 * All that an object answers, and what it would answer when weeks go by, the tape is read, or all
 * goes back to the image. An object is used for a few questions only, and made again for the next
 * ones, so that none comes to its 512th call.
 */
final class Look {
    /** A question, or a run of calls that ends in one. */
    private record Question(String name, Edge.Answer answer) {
    }

    private static final int AT_ONCE = 100;
    private static final int[] WEEKS = {0, 1, 3, 8, 99};
    private static final List<List<Question>> ROUNDS = rounds();

    private Look() {
    }

    static long[] at(int w, int h, Edge.Calls calls) {
        List<Long> answers = new ArrayList<>();
        for (List<Question> round : ROUNDS) {
            SeamFire x = new SeamFire(w, h);
            calls.on(x);
            for (Question question : round) {
                answers.add(question.answer.of(x));
            }
        }
        return answers.stream().mapToLong(Long::longValue).toArray();
    }

    /** The first few questions with another answer. */
    static List<String> differences(long[] want, long[] got) {
        List<String> found = new ArrayList<>();
        int i = 0;
        for (List<Question> round : ROUNDS) {
            for (Question question : round) {
                if (want[i] != got[i] && found.size() < 4) {
                    found.add(question.name + " is " + got[i] + ", due is " + want[i]);
                }
                i++;
            }
        }
        return found;
    }

    private static List<List<Question>> rounds() {
        List<List<Question>> rounds = new ArrayList<>();
        List<Question> asked = new ArrayList<>();
        ofTheSeam(asked);
        ofTheFire(asked);
        ofWhatIsKnown(asked);
        ofTheTown(asked);
        for (int i = 0; i < asked.size(); i += AT_ONCE) {
            rounds.add(asked.subList(i, Math.min(asked.size(), i + AT_ONCE)));
        }
        rounds.add(tapeIsRead());
        rounds.add(weeksGoBy());
        rounds.add(holesArePlugged());
        rounds.add(sandIsPoured());
        rounds.add(allGoesBack());
        return rounds;
    }

    private static void add(List<Question> list, String name, Edge.Answer answer) {
        list.add(new Question(name, answer));
    }

    private static void ofTheSeam(List<Question> list) {
        for (int i = 0; i <= 13; i++) {
            int what = i;
            add(list, "about(" + what + ")", x -> x.about(what));
        }
        for (int c = 0; c < 12; c++) {
            int cell = c;
            add(list, "fill(" + cell + ")", x -> x.fill(cell));
        }
        add(list, "fault(0)", x -> x.fault(0));
        add(list, "fault(1)", x -> x.fault(1));
    }

    private static void ofTheFire(List<Question> list) {
        for (int s = 0; s < 8; s++) {
            for (int week : WEEKS) {
                for (int c = 0; c < 12; c++) {
                    for (int what = 0; what < 4; what++) {
                        burns(list, s, week, c, what);
                    }
                }
                int state = s;
                add(list, "lost(" + state + ", " + week + ")", x -> x.lost(state, week));
            }
            for (int i = 0; i < 20; i++) {
                int state = s;
                int hole = i;
                add(list, "fed(" + state + ", 9, " + hole + ")", x -> x.fed(state, 9, hole));
            }
        }
        for (int i = 0; i < 10; i++) {
            for (int s = -1; s < 8; s++) {
                int trench = i;
                int state = s;
                add(list, "inTime(" + trench + ", " + state + ")", x -> x.inTime(trench, state));
            }
        }
    }

    private static void burns(List<Question> list, int state, int week, int cell, int what) {
        add(list, "burns(" + state + ", " + week + ", " + cell + ", " + what + ")",
                x -> x.burns(state, week, cell, what));
    }

    private static void ofWhatIsKnown(List<Question> list) {
        for (int known : new int[] {0, 1, 2, 7, 100}) {
            for (int s = -1; s < 8; s++) {
                int state = s;
                add(list, "let(" + state + ", " + known + ")", x -> x.let(state, known));
            }
            for (int c = 0; c < 12; c++) {
                int cell = c;
                add(list, "span(" + cell + ", 2, " + known + ")", x -> x.span(cell, 2, known));
            }
        }
        for (int week : WEEKS) {
            add(list, "parts(" + week + ")", x -> x.parts(week));
            for (int what = 0; what < 3; what++) {
                best(list, 40, week, what);
                best(list, 99999, week, what);
            }
        }
    }

    private static void best(List<Question> list, int coins, int week, int what) {
        add(list, "best(" + coins + ", " + week + ", " + what + ")", x -> x.best(coins, week, what));
    }

    private static void ofTheTown(List<Question> list) {
        for (int week : WEEKS) {
            for (int i = 0; i < 20; i++) {
                int house = i;
                add(list, "gas(" + house + ", " + week + ", false)", x -> x.gas(house, week, false));
                add(list, "gas(" + house + ", " + week + ", true)", x -> x.gas(house, week, true));
                add(list, "by(" + house + ", " + week + ", 0)", x -> x.by(house, week, 0));
                add(list, "by(" + house + ", " + week + ", 1)", x -> x.by(house, week, 1));
                add(list, "by(" + house + ", " + week + ", 2)", x -> x.by(house, week, 2));
            }
            add(list, "whose(" + week + ")", x -> x.whose(week));
            add(list, "vote(" + week + ", 0)", x -> x.vote(week, 0));
            add(list, "vote(" + week + ", 1)", x -> x.vote(week, 1));
            add(list, "vote(" + week + ", 2)", x -> x.vote(week, 2));
        }
        for (int i = 0; i < 60; i++) {
            int person = i;
            add(list, "gone(" + person + ")", x -> x.gone(person));
        }
    }

    private static List<Question> tapeIsRead() {
        List<Question> list = new ArrayList<>();
        add(list, "act()", SeamFire::act);
        add(list, "then fault(0)", x -> x.fault(0));
        add(list, "then fault(1)", x -> x.fault(1));
        add(list, "then force of it", x -> x.force(x.about(10) - 1, Math.min(99, x.about(0)), 99));
        add(list, "then by(0, 99, 0)", x -> x.by(0, 99, 0));
        add(list, "then by(0, 99, 1)", x -> x.by(0, 99, 1));
        add(list, "then whose(99)", x -> x.whose(99));
        add(list, "then vote(99, 0)", x -> x.vote(99, 0));
        return list;
    }

    private static List<Question> weeksGoBy() {
        List<Question> list = new ArrayList<>();
        for (int n : new int[] {1, 20}) {
            add(list, "weeks(" + n + ")", x -> x.weeks(n));
            for (int i = 0; i < 60; i++) {
                int person = i;
                add(list, "then gone(" + person + ")", x -> x.gone(person));
            }
        }
        return list;
    }

    private static List<Question> holesArePlugged() {
        List<Question> list = new ArrayList<>();
        for (int i = 0; i < 20; i++) {
            int hole = i;
            add(list, "plug(" + hole + ")", x -> x.plug(hole) ? 1 : 0);
        }
        return list;
    }

    private static List<Question> sandIsPoured() {
        List<Question> list = new ArrayList<>();
        for (int i = 0; i < 42; i++) {
            add(list, "pour(9, 1)", x -> x.pour(9, 1));
        }
        return list;
    }

    private static List<Question> allGoesBack() {
        List<Question> list = new ArrayList<>();
        add(list, "back()", SeamFire::back);
        ofTheSeam(list);
        for (int s = 0; s < 8; s++) {
            int state = s;
            add(list, "lost(" + state + ", 9)", x -> x.lost(state, 9));
        }
        for (int i = 0; i < 20; i++) {
            int house = i;
            add(list, "by(" + house + ", 5, 1)", x -> x.by(house, 5, 1));
        }
        add(list, "weeks(1)", x -> x.weeks(1));
        for (int i = 0; i < 60; i++) {
            int person = i;
            add(list, "gone(" + person + ")", x -> x.gone(person));
        }
        return list;
    }
}
