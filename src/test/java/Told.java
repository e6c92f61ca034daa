import java.util.ArrayList;
import java.util.List;
import java.util.function.Supplier;

/**
 * All that is told of a kitchen, with numbers that are refused among those asked, and what it answers to changes that
 * are made later. An object answers for 512 calls alone, so the questions are shared out among kitchens that are made
 * in the same way.
 */
final class Told {
    private record Question(String text, Call call) {
    }

    private static final int PART = 400;
    private static final List<Question> QUESTIONS = questions();
    private static final List<Question> CHANGES = changes();

    private Told() {
    }

    static List<String> of(Supplier<HookColours> made) {
        List<String> told = new ArrayList<>();
        for (int from = 0; from < QUESTIONS.size(); from += PART) {
            ask(made.get(), QUESTIONS.subList(from, Math.min(from + PART, QUESTIONS.size())), told);
        }
        ask(made.get(), CHANGES, told);
        return told;
    }

    /** Tells the first difference. */
    static void same(String run, List<String> got, List<String> due) {
        for (int at = 0; at < due.size(); at++) {
            if (!got.get(at).equals(due.get(at))) {
                Due.tell(run + ": " + got.get(at) + ", due is " + due.get(at));
                return;
            }
        }
    }

    private static void ask(HookColours x, List<Question> questions, List<String> told) {
        for (Question one : questions) {
            long[] answer = new long[1];
            Class<?> thrown = Due.thrownBy(() -> answer[0] = one.call.on(x));
            told.add(one.text + " answered " + (thrown == null ? answer[0] : thrown.getName()));
        }
    }

    private static List<Question> questions() {
        List<Question> list = new ArrayList<>();
        for (int deed = -1; deed <= 30; deed++) {
            for (int what = 0; what < 7; what++) {
                int a = deed;
                int b = what;
                list.add(new Question("deed(" + a + ", " + b + ")", x -> x.deed(a, b)));
            }
        }
        for (int pot = 0; pot < 16; pot++) {
            for (int deed = 0; deed <= 30; deed++) {
                int a = pot;
                int b = deed;
                list.add(new Question("lives(" + a + ", " + b + ")", x -> Due.number(x.lives(a, b))));
            }
            for (int other = 0; other < 16; other++) {
                int a = pot;
                int b = other;
                list.add(new Question("clash(" + a + ", " + b + ")", x -> Due.number(x.clash(a, b))));
            }
            for (int what = 0; what < 6; what++) {
                int a = pot;
                int b = what;
                list.add(new Question("pot(" + a + ", " + b + ")", x -> x.pot(a, b)));
            }
        }
        for (int number = -1; number <= 17; number++) {
            int a = number;
            list.add(new Question("count(" + a + ")", x -> x.count(a)));
            list.add(new Question("hangs(" + a + ")", x -> x.hangs(a)));
            list.add(new Question("would(" + a + ")", x -> x.would(a)));
        }
        list.add(new Question("crowd()", HookColours::crowd));
        list.add(new Question("fewest()", HookColours::fewest));
        list.add(new Question("advise()", HookColours::advise));
        list.add(new Question("mean()", x -> Double.doubleToLongBits(x.mean())));
        list.add(new Question("digest()", HookColours::digest));
        return list;
    }

    /** What lies hidden may come to light by a change. */
    private static List<Question> changes() {
        List<Question> list = new ArrayList<>();
        list.add(new Question("later cook(14, 13, 0, 2)", x -> x.cook(14, 13, 0, 2)));
        list.add(new Question("later digest()", HookColours::digest));
        list.add(new Question("later drop(0)", x -> x.drop(0)));
        list.add(new Question("later pour(12, 0, 7)", x -> x.pour(12, 0, 7)));
        list.add(new Question("later cook(11, -1, -1, 1)", x -> x.cook(11, -1, -1, 1)));
        list.add(new Question("later digest() again", HookColours::digest));
        for (int pot = 0; pot < 16; pot++) {
            int a = pot;
            list.add(new Question("later want(" + a + ")", x -> Due.number(x.want(a, a % 2 == 0))));
        }
        list.add(new Question("later setHooks(5)", x -> x.setHooks(5)));
        list.add(new Question("last digest()", HookColours::digest));
        return list;
    }
}
