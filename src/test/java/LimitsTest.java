import java.util.TreeSet;
import java.util.function.IntToLongFunction;
import java.util.function.Supplier;

/**
 * Each number that a call takes: just below, at and just above the first and the last that the document names, those in
 * between, and some far away (the least and the greatest int, and such as look alike when bits are cut off).
 */
public final class LimitsTest {
    private static final Class<IndexOutOfBoundsException> INDEX = IndexOutOfBoundsException.class;
    private static final Class<IllegalArgumentException> ARGUMENT = IllegalArgumentException.class;
    private static final int[] SIZES = {0, 1, 2, 3, 29, 30};

    private interface Answer {
        long of(HookColours x, int number);
    }

    public static void main(String[] args) {
        potOfCook();
        potsUsedByCook();
        weightOfCook();
        potsOfPour();
        weightOfPour();
        deedOfDrop();
        potOfWant();
        hooksOfSetHooks();
        deedOfDeed();
        whatOfDeed();
        potOfLives();
        deedOfLives();
        potsOfClash();
        potOfPot();
        whatOfPot();
        whatOfCount();
        hookOfHangs();
        hooksOfWould();
        Due.end("LimitsTest");
    }

    /** In the call's text # stands for the number. */
    private static void limits(String call, Supplier<HookColours> made, int first, int last,
            Class<? extends RuntimeException> refusal, Answer got, IntToLongFunction due) {
        for (int number : numbersAround(first, last)) {
            String text = call.replace("#", Integer.toString(number));
            HookColours x = made.get();
            long[] answer = new long[1];
            Class<?> thrown = Due.thrownBy(() -> answer[0] = got.of(x, number));
            if (number < first || number > last) {
                Due.sameClass(text, thrown, refusal);
            } else {
                Due.sameClass(text, thrown, null);
                Due.same(text, answer[0], due.applyAsLong(number));
            }
        }
    }

    private static TreeSet<Integer> numbersAround(int first, int last) {
        TreeSet<Integer> numbers = new TreeSet<>();
        for (int number = first - 2; number <= last + 2; number++) {
            numbers.add(number);
        }
        for (int shift = 4; shift < 32; shift++) {
            for (int end : new int[] {first, last}) {
                numbers.add(end + (1 << shift));
                numbers.add(end - (1 << shift));
                numbers.add(end ^ (1 << shift));
            }
        }
        numbers.add(Integer.MIN_VALUE);
        numbers.add(Integer.MIN_VALUE + 1);
        numbers.add(Integer.MAX_VALUE - 1);
        numbers.add(Integer.MAX_VALUE);
        return numbers;
    }

    /** "pot is not 0 to 15" */
    private static void potOfCook() {
        limits("cook(#, -1, -1, 1)", HookColours::new, 0, 15, INDEX,
            (x, n) -> x.deed(x.cook(n, -1, -1, 1), 0) * 100 + x.pot(n, 0) * 10 + x.pot(n, 1), n -> n * 100 + 11);
        limits("cook(#, 0, 15, 9)", () -> Kitchens.withDeeds(29), 0, 15, INDEX,
            (x, n) -> x.deed(x.cook(n, 0, 15, 9), 0), n -> n);
    }

    /** "one or other is not -1 to 15" */
    private static void potsUsedByCook() {
        limits("cook(0, #, -1, 1)", HookColours::new, -1, 15, INDEX,
            (x, n) -> x.deed(x.cook(0, n, -1, 1), 1) * 10 + x.deed(0, 6), n -> n * 10 + (n < 0 ? 0 : 1));
        limits("cook(0, -1, #, 1)", HookColours::new, -1, 15, INDEX,
            (x, n) -> x.deed(x.cook(0, -1, n, 1), 2) * 10 + x.deed(0, 6), n -> n * 10 + (n < 0 ? 0 : 1));
        limits("cook(15, #, 15, 9)", HookColours::new, -1, 15, INDEX,
            (x, n) -> x.deed(x.cook(15, n, 15, 9), 1), n -> n);
        limits("cook(15, 15, #, 9)", HookColours::new, -1, 15, INDEX,
            (x, n) -> x.deed(x.cook(15, 15, n, 9), 2), n -> n);
    }

    /** "weight is not 1 to 9" */
    private static void weightOfCook() {
        limits("cook(0, -1, -1, #)", HookColours::new, 1, 9, ARGUMENT,
            (x, n) -> x.deed(x.cook(0, -1, -1, n), 3) * 100 + x.count(9) * 10 + x.pot(0, 1), n -> n * 111);
        limits("cook(15, 15, 15, #)", Kitchens::some, 1, 9, ARGUMENT,
            (x, n) -> x.deed(x.cook(15, 15, 15, n), 3), n -> n);
    }

    /** "pot or from is not 0 to 15" */
    private static void potsOfPour() {
        limits("pour(#, 0, 1)", HookColours::new, 0, 15, INDEX, (x, n) -> x.deed(x.pour(n, 0, 1), 0), n -> n);
        limits("pour(#, 15, 9)", HookColours::new, 0, 15, INDEX, (x, n) -> x.deed(x.pour(n, 15, 9), 0), n -> n);
        limits("pour(0, #, 1)", HookColours::new, 0, 15, INDEX, (x, n) -> x.deed(x.pour(0, n, 1), 1), n -> n);
        limits("pour(15, #, 9)", HookColours::new, 0, 15, INDEX,
            (x, n) -> x.deed(x.pour(15, n, 9), 1) * 10 + x.deed(0, 2), n -> n * 10 - 1);
    }

    /** "weight is not 1 to 9" */
    private static void weightOfPour() {
        limits("pour(0, 1, #)", HookColours::new, 1, 9, ARGUMENT,
            (x, n) -> x.deed(x.pour(0, 1, n), 3) * 10 + x.pot(1, 1), n -> n * 11);
        limits("pour(15, 15, #)", Kitchens::some, 1, 9, ARGUMENT, (x, n) -> x.deed(x.pour(15, 15, n), 3), n -> n);
    }

    /** "if there is no such deed"; the weights tell which is out. */
    private static void deedOfDrop() {
        for (int size : SIZES) {
            int weights = Kitchens.withDeeds(size).count(9);
            limits("drop(#) of " + size, () -> Kitchens.withDeeds(size), 0, size - 1, INDEX,
                (x, n) -> x.drop(n) * 1000 + x.count(9), n -> (size - 1) * 1000 + weights - (n % 9 + 1));
        }
    }

    /** "pot is not 0 to 15" */
    private static void potOfWant() {
        limits("want(#, true)", HookColours::new, 0, 15, INDEX,
            (x, n) -> Due.number(x.want(n, true)) * 10 + x.pot(n, 0), n -> 1);
        limits("want(#, false)", () -> Kitchens.wantingAll(3), 0, 15, INDEX,
            (x, n) -> Due.number(x.want(n, false)) * 10 + x.pot(n, 0), n -> 10);
    }

    /** "hooks is not 1 to 8" */
    private static void hooksOfSetHooks() {
        limits("setHooks(#)", HookColours::new, 1, 8, ARGUMENT,
            (x, n) -> x.setHooks(n) * 10 + x.count(1), n -> 30 + n);
        limits("setHooks(#) of 8", () -> Kitchens.wantingAll(8), 1, 8, ARGUMENT,
            (x, n) -> x.setHooks(n) * 100 + x.count(4), n -> 800 + 16 - n);
    }

    /** "if there is no such deed" */
    private static void deedOfDeed() {
        for (int size : SIZES) {
            limits("deed(#, 3) of " + size, () -> Kitchens.withDeeds(size), 0, size - 1, INDEX,
                (x, n) -> x.deed(n, 3), n -> n % 9 + 1);
        }
    }

    /** "what is not 0 to 6" */
    private static void whatOfDeed() {
        int[] cooked = {3, 1, 2, 2, 0, 3, 4};
        limits("deed(3, #)", Kitchens::some, 0, 6, INDEX, (x, n) -> x.deed(3, n), n -> cooked[n]);
        int[] poured = {4, 4, -1, 9, 1, 2, 3};
        limits("deed(4, #)", Kitchens::some, 0, 6, INDEX, (x, n) -> x.deed(4, n), n -> poured[n]);
        limits("deed(0, #) without deeds", HookColours::new, 0, -1, INDEX, (x, n) -> x.deed(0, n), n -> 0);
    }

    /** "pot is not 0 to 15"; behind the deed 3 the pot that is poured into itself lives as well. */
    private static void potOfLives() {
        limits("lives(#, 3)", Kitchens::some, 0, 15, INDEX,
            (x, n) -> Due.number(x.lives(n, 3)), n -> n == 3 || n == 4 || n == 15 ? 1 : 0);
        limits("lives(#, 0), all wanted", () -> livingAll(1), 0, 15, INDEX,
            (x, n) -> Due.number(x.lives(n, 0)), n -> 1);
    }

    private static HookColours livingAll(int deeds) {
        HookColours x = Kitchens.wantingFirst(16);
        for (int deed = 0; deed < deeds; deed++) {
            x.cook(deed % 16, -1, -1, 1);
        }
        return x;
    }

    /** "or there is no such deed" */
    private static void deedOfLives() {
        for (int size : SIZES) {
            limits("lives(15, #) of " + size, () -> livingAll(size), 0, size - 1, INDEX,
                (x, n) -> Due.number(x.lives(15, n)), n -> n >= 15 || size <= 15 ? 1 : 0);
        }
    }

    /** "a or b is not 0 to 15" */
    private static void potsOfClash() {
        Supplier<HookColours> made = () -> Kitchens.wantingAll(3);
        limits("clash(#, 0)", made, 0, 15, INDEX, (x, n) -> Due.number(x.clash(n, 0)), n -> n == 0 ? 0 : 1);
        limits("clash(0, #)", made, 0, 15, INDEX, (x, n) -> Due.number(x.clash(0, n)), n -> n == 0 ? 0 : 1);
        limits("clash(#, 15)", made, 0, 15, INDEX, (x, n) -> Due.number(x.clash(n, 15)), n -> n == 15 ? 0 : 1);
        limits("clash(15, #)", made, 0, 15, INDEX, (x, n) -> Due.number(x.clash(15, n)), n -> n == 15 ? 0 : 1);
        limits("clash(#, #)", made, 0, 15, INDEX, (x, n) -> Due.number(x.clash(n, n)), n -> 0);
    }

    /** "pot is not 0 to 15" */
    private static void potOfPot() {
        int[] costs = {8, 6, 5, 2, 18, 0, 0, 0, 0, 0, 0, 0, 0, 0, 0, 5};
        limits("pot(#, 1)", Kitchens::some, 0, 15, INDEX, (x, n) -> x.pot(n, 1), n -> costs[n]);
        limits("pot(#, 4)", () -> Kitchens.wantingAll(1), 0, 15, INDEX, (x, n) -> x.pot(n, 4), n -> n);
        limits("pot(#, 3) of a new object", HookColours::new, 0, 15, INDEX, (x, n) -> x.pot(n, 3), n -> -1);
    }

    /** "what is not 0 to 5" */
    private static void whatOfPot() {
        int[] first = {1, 0, 15, -1, 0, 1};
        limits("pot(0, #)", () -> Kitchens.wantingAll(8), 0, 5, INDEX, (x, n) -> x.pot(0, n), n -> first[n]);
        int[] last = {1, 0, 15, 0, 15, 0};
        limits("pot(15, #)", () -> Kitchens.wantingAll(8), 0, 5, INDEX, (x, n) -> x.pot(15, n), n -> last[n]);
        int[] none = {0, 0, 0, -1, -1, 0};
        limits("pot(7, #) of a new object", HookColours::new, 0, 5, INDEX, (x, n) -> x.pot(7, n), n -> none[n]);
    }

    /** "what is not 0 to 9" */
    private static void whatOfCount() {
        int[] empty = {0, 3, 0, 0, 0, 0, 0, 0, 0, 0};
        limits("count(#) of a new object", HookColours::new, 0, 9, INDEX, (x, n) -> x.count(n), n -> empty[n]);
        int[] crowded = {0, 5, 16, 120, 11, 5, 0, 0, 0, 0};
        limits("count(#)", () -> Kitchens.wantingAll(5), 0, 9, INDEX, (x, n) -> x.count(n), n -> crowded[n]);
    }

    /** "if there is no such hook" */
    private static void hookOfHangs() {
        limits("hangs(#) of a new object", HookColours::new, 0, 2, INDEX, (x, n) -> x.hangs(n), n -> 0);
        for (int hooks = 1; hooks <= 8; hooks++) {
            int count = hooks;
            limits("hangs(#) of " + hooks, () -> Kitchens.wantingAll(count), 0, hooks - 1, INDEX,
                (x, n) -> x.hangs(n), n -> 1);
        }
    }

    /** "hooks is not 1 to 16", whatever number of hooks there is */
    private static void hooksOfWould() {
        limits("would(#) of a new object", HookColours::new, 1, 16, ARGUMENT, (x, n) -> x.would(n), n -> 0);
        limits("would(#) with 1", () -> Kitchens.wantingAll(1), 1, 16, ARGUMENT, (x, n) -> x.would(n), n -> 16 - n);
        limits("would(#) with 8", () -> Kitchens.wantingAll(8), 1, 16, ARGUMENT, (x, n) -> x.would(n), n -> 16 - n);
    }
}
