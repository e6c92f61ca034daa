import java.util.Random;
import java.util.function.LongSupplier;

/** Promises 1 to 18: long runs of calls, wrong ones among them, against the document told plainly. */
public final class PlainKitchenTest {
    private static final int RUNS = 100;
    private static final int CALLS = 512;

    private final Random random;
    private final int pots;
    private final int pourings;
    private final int wrongs;
    private final HookColours x = new HookColours();
    private final PlainKitchen plain = new PlainKitchen();
    private final String name;
    private int calls = 0;

    private PlainKitchenTest(int run) {
        random = new Random(run);
        name = "run " + run;
        pots = 2 + random.nextInt(15);
        pourings = random.nextInt(100);
        wrongs = run % 3 == 0 ? 20 : 0;
    }

    public static void main(String[] args) {
        for (int run = 0; run < RUNS; run++) {
            new PlainKitchenTest(run).goThrough();
        }
        Due.end("PlainKitchenTest");
    }

    private void goThrough() {
        int first = random.nextInt(30);
        for (int deed = 0; deed < first; deed++) {
            add();
        }
        while (calls < CALLS - 2) {
            change();
            ask();
            if (calls % 5 == 0) {
                same("digest()", x::digest, plain::digest);
            }
        }
        same("digest()", x::digest, plain::digest);
    }

    private void same(String call, LongSupplier got, LongSupplier due) {
        calls++;
        long[] answers = new long[2];
        Class<?> dueThrown = Due.thrownBy(() -> answers[1] = due.getAsLong());
        Class<?> gotThrown = Due.thrownBy(() -> answers[0] = got.getAsLong());
        if (gotThrown != dueThrown || answers[0] != answers[1]) {
            Due.tell(name + ", call " + calls + ": " + call + " answered " + answers[0] + " " + gotThrown
                + ", due is " + answers[1] + " " + dueThrown);
        }
    }

    private static long number(boolean answer) {
        return answer ? 1 : 0;
    }

    /** A number from the least on; in some runs now and then one just outside, or far from it. */
    private int some(int least, int bound) {
        if (random.nextInt(100) >= wrongs || random.nextInt(3) > 0) {
            return least + random.nextInt(Math.max(1, bound - least));
        }
        int[] no = {least - 1, bound, bound + 1, Integer.MIN_VALUE, Integer.MAX_VALUE};
        return no[random.nextInt(no.length)];
    }

    private int potOrNone() {
        return random.nextInt(4) == 0 ? -1 : some(0, pots);
    }

    private void add() {
        int pot = some(0, pots);
        int weight = some(1, 10);
        if (random.nextInt(100) < pourings) {
            int from = some(0, pots);
            same("pour(" + pot + ", " + from + ", " + weight + ")",
                () -> x.pour(pot, from, weight), () -> plain.pour(pot, from, weight));
        } else {
            int one = potOrNone();
            int other = potOrNone();
            same("cook(" + pot + ", " + one + ", " + other + ", " + weight + ")",
                () -> x.cook(pot, one, other, weight), () -> plain.cook(pot, one, other, weight));
        }
    }

    private void change() {
        int deeds = plain.count(0);
        switch (random.nextInt(8)) {
            case 0, 1, 2 -> add();
            case 3, 4 -> {
                int deed = some(0, deeds);
                same("drop(" + deed + ")", () -> x.drop(deed), () -> plain.drop(deed));
            }
            case 5, 6 -> {
                int pot = some(0, pots);
                boolean want = random.nextInt(3) == 0;
                same("want(" + pot + ", " + want + ")",
                    () -> number(x.want(pot, want)), () -> number(plain.want(pot, want)));
            }
            default -> {
                int hooks = random.nextInt(4) == 0 ? some(1, 9) : some(1, 5);
                same("setHooks(" + hooks + ")", () -> x.setHooks(hooks), () -> plain.setHooks(hooks));
            }
        }
    }

    private void ask() {
        int deed = some(0, plain.count(0));
        int pot = some(0, 16);
        int other = some(0, pots);
        switch (random.nextInt(12)) {
            case 0 -> asked("deed", deed, some(0, 7), x::deed, plain::deed);
            case 1 -> asked("lives", pot, deed, (a, b) -> number(x.lives(a, b)), (a, b) -> number(plain.lives(a, b)));
            case 2 -> asked("clash", pot, other, (a, b) -> number(x.clash(a, b)), (a, b) -> number(plain.clash(a, b)));
            case 3 -> asked("pot", pot, some(0, 6), x::pot, plain::pot);
            case 4 -> asked("count, no", some(0, 10), 0, (a, b) -> x.count(a), (a, b) -> plain.count(a));
            case 5 -> asked("hangs, no", some(0, plain.count(1)), 0, (a, b) -> x.hangs(a), (a, b) -> plain.hangs(a));
            case 6 -> same("crowd()", x::crowd, plain::crowd);
            case 7, 8 -> asked("would, no", some(1, 17), 0, (a, b) -> x.would(a), (a, b) -> plain.would(a));
            case 9 -> same("fewest()", x::fewest, plain::fewest);
            case 10 -> same("advise()", x::advise, plain::advise);
            default -> same("mean()",
                () -> Double.doubleToLongBits(x.mean()), () -> Double.doubleToLongBits(plain.mean()));
        }
    }

    private interface Question {
        long of(int a, int b);
    }

    private void asked(String call, int a, int b, Question got, Question due) {
        same(call + "(" + a + ", " + b + ")", () -> got.of(a, b), () -> due.of(a, b));
    }
}
