import java.util.List;
import java.util.function.Supplier;

/**
 * "A method that throws an exception changes nothing. If several exceptions apply, the one that is named first is
 * thrown." And what only asks changes nothing.
 */
public final class UnchangedTest {
    private static final int[] WRONG_POTS = {-2, 16, Integer.MIN_VALUE, Integer.MAX_VALUE};
    private static final int[] WRONG_WEIGHTS = {0, 10, -1, Integer.MIN_VALUE, Integer.MAX_VALUE};
    private static final Class<IndexOutOfBoundsException> INDEX = IndexOutOfBoundsException.class;
    private static final Class<IllegalArgumentException> ARGUMENT = IllegalArgumentException.class;
    private static final Class<IllegalStateException> STATE = IllegalStateException.class;

    private final String kitchen;
    private final Supplier<HookColours> made;
    private final boolean isFull;
    private final int deeds;
    private final int hooks;
    private final List<String> before;

    private UnchangedTest(String kitchen, Supplier<HookColours> made) {
        this.kitchen = kitchen;
        this.made = made;
        this.deeds = made.get().count(0);
        this.hooks = made.get().count(1);
        this.isFull = deeds == 30;
        this.before = Told.of(made);
    }

    public static void main(String[] args) {
        UnchangedTest[] tests = {
            new UnchangedTest("new", HookColours::new),
            new UnchangedTest("some", Kitchens::some),
            new UnchangedTest("full", Kitchens::full),
            new UnchangedTest("all wanted", () -> Kitchens.wantingAll(1)),
            new UnchangedTest("29 deeds", () -> Kitchens.withDeeds(29)),
        };
        for (UnchangedTest test : tests) {
            test.refusedCooks();
            test.refusedPours();
            test.refusedDeeds();
            test.refusedPots();
            test.refusedHooks();
            test.refusedWhats();
            test.questions();
        }
        Due.end("UnchangedTest");
    }

    private void refused(String call, Class<?> due, Call made) {
        Due.sameClass(kitchen + ": " + call, Due.thrownBy(() -> made.on(this.made.get())), due);
        changesNothing(call, made);
    }

    /** Once shows what a second call would turn back, twice shows what only adds up. */
    private void changesNothing(String call, Call tried) {
        for (int times = 1; times <= 2; times++) {
            int calls = times;
            Told.same(kitchen + ", after " + times + " times " + call, Told.of(() -> after(tried, calls)), before);
        }
    }

    private HookColours after(Call tried, int times) {
        HookColours x = made.get();
        for (int call = 0; call < times; call++) {
            Due.thrownBy(() -> tried.on(x));
        }
        return x;
    }

    private static int right(boolean isWrong, int wrong, int right) {
        return isWrong ? wrong : right;
    }

    /** Each mixture of right and wrong numbers; of the exceptions that apply the one that is named first is due. */
    private void refusedCooks() {
        for (int mixture = 0; mixture < 16; mixture++) {
            boolean anyPot = (mixture & 7) != 0;
            boolean weight = (mixture & 8) != 0;
            if (!anyPot && !weight && !isFull) {
                continue;
            }
            for (int at = 0; at < WRONG_POTS.length; at++) {
                int a = right((mixture & 1) != 0, at == 0 ? -1 : WRONG_POTS[at], 15);
                int b = right((mixture & 2) != 0, WRONG_POTS[at], -1);
                int c = right((mixture & 4) != 0, WRONG_POTS[at], 0);
                int d = right(weight, WRONG_WEIGHTS[at], 9);
                refused("cook(" + a + ", " + b + ", " + c + ", " + d + ")",
                    anyPot ? INDEX : weight ? ARGUMENT : STATE, x -> x.cook(a, b, c, d));
            }
        }
    }

    private void refusedPours() {
        for (int mixture = 0; mixture < 8; mixture++) {
            boolean anyPot = (mixture & 3) != 0;
            boolean weight = (mixture & 4) != 0;
            if (!anyPot && !weight && !isFull) {
                continue;
            }
            for (int at = 0; at < WRONG_POTS.length; at++) {
                int a = right((mixture & 1) != 0, at == 0 ? -1 : WRONG_POTS[at], 15);
                int b = right((mixture & 2) != 0, at == 0 ? -1 : WRONG_POTS[at], 0);
                int c = right(weight, WRONG_WEIGHTS[at], 1);
                refused("pour(" + a + ", " + b + ", " + c + ")",
                    anyPot ? INDEX : weight ? ARGUMENT : STATE, x -> x.pour(a, b, c));
            }
        }
        refused("pour(0, -1, 1)", INDEX, x -> x.pour(0, -1, 1));
        refused("pour(-1, 0, 1)", INDEX, x -> x.pour(-1, 0, 1));
    }

    private void refusedDeeds() {
        for (int deed : new int[] {-1, deeds, deeds + 1, Integer.MIN_VALUE, Integer.MAX_VALUE}) {
            refused("drop(" + deed + ")", INDEX, x -> x.drop(deed));
            refused("deed(" + deed + ", 0)", INDEX, x -> x.deed(deed, 0));
            refused("deed(" + deed + ", 7)", INDEX, x -> x.deed(deed, 7));
            refused("lives(0, " + deed + ")", INDEX, x -> Due.number(x.lives(0, deed)));
            refused("lives(16, " + deed + ")", INDEX, x -> Due.number(x.lives(16, deed)));
        }
    }

    private void refusedPots() {
        for (int pot : new int[] {-1, 16, Integer.MIN_VALUE, Integer.MAX_VALUE}) {
            refused("want(" + pot + ", true)", INDEX, x -> Due.number(x.want(pot, true)));
            refused("want(" + pot + ", false)", INDEX, x -> Due.number(x.want(pot, false)));
            refused("lives(" + pot + ", 0)", INDEX, x -> Due.number(x.lives(pot, 0)));
            refused("clash(" + pot + ", 0)", INDEX, x -> Due.number(x.clash(pot, 0)));
            refused("clash(0, " + pot + ")", INDEX, x -> Due.number(x.clash(0, pot)));
            refused("clash(" + pot + ", " + pot + ")", INDEX, x -> Due.number(x.clash(pot, pot)));
            refused("pot(" + pot + ", 0)", INDEX, x -> x.pot(pot, 0));
            refused("pot(" + pot + ", 6)", INDEX, x -> x.pot(pot, 6));
        }
    }

    private void refusedHooks() {
        for (int wrong : new int[] {0, -1, 9, 16, Integer.MIN_VALUE, Integer.MAX_VALUE}) {
            refused("setHooks(" + wrong + ")", ARGUMENT, x -> x.setHooks(wrong));
        }
        for (int wrong : new int[] {0, -1, 17, Integer.MIN_VALUE, Integer.MAX_VALUE}) {
            refused("would(" + wrong + ")", ARGUMENT, x -> x.would(wrong));
        }
        for (int wrong : new int[] {-1, hooks, 8, Integer.MIN_VALUE, Integer.MAX_VALUE}) {
            refused("hangs(" + wrong + ")", INDEX, x -> x.hangs(wrong));
        }
    }

    private void refusedWhats() {
        for (int wrong : new int[] {-1, 10, Integer.MIN_VALUE, Integer.MAX_VALUE}) {
            refused("deed(0, " + wrong + ")", INDEX, x -> x.deed(0, wrong));
            refused("pot(0, " + wrong + ")", INDEX, x -> x.pot(0, wrong));
            refused("count(" + wrong + ")", INDEX, x -> x.count(wrong));
        }
        refused("deed(0, 7)", INDEX, x -> x.deed(0, 7));
        refused("pot(0, 6)", INDEX, x -> x.pot(0, 6));
    }

    /** "nothing is changed" by would and advise, nor by any other question. */
    private void questions() {
        for (int tried = 1; tried <= 16; tried++) {
            int number = tried;
            changesNothing("would(" + number + ")", x -> x.would(number));
        }
        changesNothing("advise()", HookColours::advise);
        changesNothing("fewest()", HookColours::fewest);
        changesNothing("crowd()", HookColours::crowd);
        changesNothing("mean()", x -> (long) x.mean());
        changesNothing("digest()", HookColours::digest);
        for (int what = 0; what < 10; what++) {
            int number = what;
            changesNothing("count(" + number + ")", x -> x.count(number));
        }
        changesNothing("pot(0, 3)", x -> x.pot(0, 3));
        changesNothing("hangs(0)", x -> x.hangs(0));
        changesNothing("clash(0, 1)", x -> Due.number(x.clash(0, 1)));
        if (deeds > 0) {
            changesNothing("deed(0, 5)", x -> x.deed(0, 5));
            changesNothing("lives(0, 0)", x -> Due.number(x.lives(0, 0)));
        }
    }
}
