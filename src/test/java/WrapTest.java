import java.math.BigInteger;
import java.util.ArrayList;
import java.util.List;
import java.util.function.Supplier;

/** "A number d starts with 1609; ... d becomes d * 31 + x, which wraps around as a 64-bit integer". */
public final class WrapTest {
    private static final BigInteger START = BigInteger.valueOf(1609);
    private static final BigInteger FACTOR = BigInteger.valueOf(31);
    private static final BigInteger FIRST = BigInteger.valueOf(Long.MIN_VALUE);
    private static final BigInteger LAST = BigInteger.valueOf(Long.MAX_VALUE);

    /** How often the number passed the upper end, the lower end, and how often it ended above 0 and below 0. */
    private static int above = 0;
    private static int below = 0;
    private static int endsAbove = 0;
    private static int endsBelow = 0;

    public static void main(String[] args) {
        digestOf("new object", HookColours::new);
        digestOf("some", Kitchens::some, 3, 15);
        digestOf("full", Kitchens::full, 0, 3, 6, 9, 12, 15);
        digestOf("30 deeds", () -> Kitchens.withDeeds(30));
        for (int pot = 0; pot < 16; pot++) {
            int wanted = pot;
            digestOf("wanting " + pot, () -> Kitchens.wanting(wanted), pot);
        }
        for (int hooks = 1; hooks <= 8; hooks++) {
            int count = hooks;
            digestOf("all on " + hooks, () -> Kitchens.wantingAll(count),
                0, 1, 2, 3, 4, 5, 6, 7, 8, 9, 10, 11, 12, 13, 14, 15);
        }
        for (int deeds = 1; deeds < 30; deeds++) {
            int count = deeds;
            digestOf(deeds + " deeds", () -> Kitchens.withDeeds(count));
        }
        bothEndsArePassed();
        eachStepOfOne();
        Due.end("WrapTest");
    }

    /** Numbers without an end, cut to 64 bits as a two's complement at each step. */
    private static long wrapped(List<Integer> numbers) {
        BigInteger d = START;
        for (int x : numbers) {
            BigInteger next = d.multiply(FACTOR).add(BigInteger.valueOf(x));
            above += next.compareTo(LAST) > 0 ? 1 : 0;
            below += next.compareTo(FIRST) < 0 ? 1 : 0;
            d = next.subtract(FIRST).mod(BigInteger.ONE.shiftLeft(64)).add(FIRST);
        }
        return d.longValueExact();
    }

    /** The numbers in the document's order; another kitchen tells the clashes, as an object answers for 512 calls. */
    private static List<Integer> numbers(Supplier<HookColours> made, int... wanted) {
        List<Integer> numbers = new ArrayList<>();
        HookColours x = made.get();
        HookColours y = made.get();
        for (int what = 0; what < 10; what++) {
            numbers.add(x.count(what));
        }
        for (int deed = 0; deed < numbers.get(0); deed++) {
            for (int what = 0; what < 7; what++) {
                numbers.add(x.deed(deed, what));
            }
        }
        for (int pot = 0; pot < 16; pot++) {
            for (int what = 0; what < 6; what++) {
                numbers.add(x.pot(pot, what));
            }
            int isWanted = 0;
            for (int one : wanted) {
                isWanted |= one == pot ? 1 : 0;
            }
            numbers.add(isWanted);
            int bits = 0;
            int worth = 1;
            for (int other = 0; other < 16; other++) {
                bits += y.clash(pot, other) ? worth : 0;
                worth *= 2;
            }
            numbers.add(bits);
        }
        return numbers;
    }

    private static void digestOf(String run, Supplier<HookColours> made, int... wanted) {
        long due = wrapped(numbers(made, wanted));
        Due.same(run + ": digest()", made.get().digest(), due);
        endsAbove += due > Integer.MAX_VALUE ? 1 : 0;
        endsBelow += due < Integer.MIN_VALUE ? 1 : 0;
    }

    private static void bothEndsArePassed() {
        Due.same("the number passed its upper end", above > 100, true);
        Due.same("the number passed its lower end", below > 100, true);
        Due.same("digests far above 0", endsAbove > 10, true);
        Due.same("digests far below 0", endsBelow > 10, true);
    }

    /** The numbers written out by hand: two deeds, one hook, the pot 15 wanted, which stands on the floor. */
    private static void eachStepOfOne() {
        HookColours x = new HookColours();
        x.setHooks(1);
        x.cook(0, 15, -1, 9);
        x.pour(1, 0, 4);
        x.want(15, true);
        List<Integer> numbers = new ArrayList<>(List.of(2, 1, 3, 2, 1, 1, 1, 1, 9, 9));
        numbers.addAll(List.of(0, 15, -1, 9, 0, 2, 1));
        numbers.addAll(List.of(1, 0, -1, 4, 1, 1, 2));
        numbers.addAll(List.of(1, 13, 1, 0, 2, 0, 0, 32768));
        numbers.addAll(List.of(1, 4, 1, 0, 0, 0, 0, 32768));
        for (int pot = 2; pot < 15; pot++) {
            numbers.addAll(List.of(0, 0, 0, -1, -1, 0, 0, 0));
        }
        numbers.addAll(List.of(1, 9, 2, -1, 1, 1, 1, 3));
        Due.same("written out: digest()", x.digest(), wrapped(numbers));
        Due.same("written out: digest() again", x.digest(), wrapped(numbers));
    }
}
