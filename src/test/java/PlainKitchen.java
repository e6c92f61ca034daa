import java.util.ArrayList;
import java.util.Arrays;
import java.util.Comparator;
import java.util.HashMap;
import java.util.List;
import java.util.Map;
import java.util.Optional;
import java.util.TreeSet;

/**
 * The document once more, told by its definitions: it keeps nothing but the deeds, the pots wanted and the number of
 * hooks, and finds each answer anew (what it has found it keeps till the next change, to be quick enough). It has no
 * part in common with the class under test.
 */
final class PlainKitchen {
    private record Deed(int pot, int one, int other, int weight, boolean pouring) {
        boolean uses(int which) {
            return one == which || other == which;
        }

        boolean touches(int which) {
            return pot == which || uses(which);
        }

        int times(int which) {
            return (pot == which ? 1 : 0) + (one == which ? 1 : 0) + (other == which ? 1 : 0);
        }

        boolean poursBetween(int a, int b) {
            return pouring && (pot == a && one == b || pot == b && one == a);
        }
    }

    /** What hanging answers: the pots in the order in which they are put aside, and the hook of each, -1 for none. */
    private record Hung(List<Integer> aside, int[] hook) {
        List<Integer> floor() {
            return aside.stream().filter(pot -> hook[pot] < 0).sorted().toList();
        }
    }

    private final List<Deed> deeds = new ArrayList<>();
    private final TreeSet<Integer> wanted = new TreeSet<>();
    private int hooks = 3;
    private final Map<Integer, Hung> found = new HashMap<>();
    private boolean[][] clashes = null;

    private void forget() {
        found.clear();
        clashes = null;
    }

    int cook(int pot, int one, int other, int weight) {
        indexIf(pot < 0 || pot > 15 || one < -1 || one > 15 || other < -1 || other > 15);
        return add(new Deed(pot, one, other, weight, false));
    }

    int pour(int pot, int from, int weight) {
        indexIf(pot < 0 || pot > 15 || from < 0 || from > 15);
        return add(new Deed(pot, from, -1, weight, true));
    }

    private int add(Deed deed) {
        argumentIf(deed.weight < 1 || deed.weight > 9);
        if (deeds.size() == 30) {
            throw new IllegalStateException();
        }
        deeds.add(deed);
        forget();
        return deeds.size() - 1;
    }

    int drop(int deed) {
        noDeedIf(deed);
        deeds.remove(deed);
        forget();
        return deeds.size();
    }

    boolean want(int pot, boolean want) {
        indexIf(pot < 0 || pot > 15);
        forget();
        return want ? !wanted.add(pot) : wanted.remove(pot);
    }

    int setHooks(int count) {
        argumentIf(count < 1 || count > 8);
        int before = hooks;
        hooks = count;
        return before;
    }

    int deed(int deed, int what) {
        noDeedIf(deed);
        indexIf(what < 0 || what > 6);
        Deed it = deeds.get(deed);
        return new int[] {
            it.pot, it.one, it.other, it.weight, it.pouring ? 1 : 0, living(deed + 1).size(), living(deed).size()
        }[what];
    }

    boolean lives(int pot, int deed) {
        indexIf(pot < 0 || pot > 15);
        noDeedIf(deed);
        return livesAhead(pot, deed + 1);
    }

    boolean clash(int a, int b) {
        indexIf(a < 0 || a > 15 || b < 0 || b > 15);
        if (clashes == null) {
            clashes = new boolean[16][16];
            for (int one : all()) {
                for (int other : all()) {
                    clashes[one][other] = one != other && doClash(one, other);
                }
            }
        }
        return clashes[a][b];
    }

    int pot(int pot, int what) {
        indexIf(pot < 0 || pot > 15 || what < 0 || what > 5);
        Hung hung = hang(hooks);
        return new int[] {
            isThere(pot) ? 1 : 0, cost(pot), (int) all().stream().filter(other -> clash(pot, other)).count(),
            hung.hook[pot], hung.aside.indexOf(pot), hung.floor().contains(pot) ? 1 : 0
        }[what];
    }

    int count(int what) {
        indexIf(what < 0 || what > 9);
        Hung hung = hang(hooks);
        int pairs = 0;
        for (int a : all()) {
            for (int b = 0; b < a; b++) {
                pairs += clash(a, b) ? 1 : 0;
            }
        }
        List<Deed> pourings = deeds.stream().filter(Deed::pouring).toList();
        List<Deed> spared = pourings.stream()
            .filter(it -> hung.hook[it.pot] >= 0 && hung.hook[it.pot] == hung.hook[it.one]).toList();
        int weights = deeds.stream().mapToInt(Deed::weight).sum() - spared.stream().mapToInt(Deed::weight).sum();
        return new int[] {
            deeds.size(), hooks, hung.aside.size(), pairs, hung.floor().size(),
            (int) Arrays.stream(hung.hook).filter(hook -> hook >= 0).distinct().count(),
            pourings.size(), spared.size(), costs(hung.floor()), weights
        }[what];
    }

    int hangs(int hook) {
        indexIf(hook < 0 || hook >= hooks);
        return (int) Arrays.stream(hang(hooks).hook).filter(one -> one == hook).count();
    }

    int crowd() {
        int most = 0;
        for (int deed = 0; deed <= deeds.size(); deed++) {
            most = Math.max(most, living(deed).size());
        }
        return most;
    }

    int would(int count) {
        argumentIf(count < 1 || count > 16);
        return hang(count).floor().size();
    }

    int fewest() {
        int count = 0;
        while (!hang(count).floor().isEmpty()) {
            count++;
        }
        return count;
    }

    int advise() {
        int best = -1;
        int least = Integer.MAX_VALUE;
        for (int deed = 0; deed < deeds.size(); deed++) {
            PlainKitchen other = new PlainKitchen();
            other.deeds.addAll(deeds);
            other.deeds.remove(deed);
            other.wanted.addAll(wanted);
            int cost = other.costs(other.hang(hooks).floor());
            if (cost < least) {
                least = cost;
                best = deed;
            }
        }
        return best;
    }

    double mean() {
        double sum = 0;
        for (int deed = 0; deed < deeds.size(); deed++) {
            sum += living(deed + 1).size();
        }
        return deeds.isEmpty() ? 0 : sum / deeds.size();
    }

    long digest() {
        List<Integer> told = new ArrayList<>();
        for (int what = 0; what <= 9; what++) {
            told.add(count(what));
        }
        for (int deed = 0; deed < deeds.size(); deed++) {
            for (int what = 0; what <= 6; what++) {
                told.add(deed(deed, what));
            }
        }
        for (int pot : all()) {
            for (int what = 0; what <= 5; what++) {
                told.add(pot(pot, what));
            }
            told.add(wanted.contains(pot) ? 1 : 0);
            int bits = 0;
            for (int other : all()) {
                bits += clash(pot, other) ? (int) Math.pow(2, other) : 0;
            }
            told.add(bits);
        }
        long d = 1609;
        for (int x : told) {
            d = d * 31 + x;
        }
        return d;
    }

    private static List<Integer> all() {
        return List.of(0, 1, 2, 3, 4, 5, 6, 7, 8, 9, 10, 11, 12, 13, 14, 15);
    }

    /** Whether the next that happens to the pot, from the deed on, is that it is used, at the latest at the end. */
    private boolean livesAhead(int pot, int deed) {
        for (Deed it : deeds.subList(deed, deeds.size())) {
            if (it.touches(pot)) {
                return it.uses(pot);
            }
        }
        return wanted.contains(pot);
    }

    private List<Integer> living(int deed) {
        return all().stream().filter(pot -> livesAhead(pot, deed)).toList();
    }

    private boolean doClash(int a, int b) {
        return livesAhead(a, 0) && livesAhead(b, 0) || clashByDeeds(a, b) || clashByDeeds(b, a);
    }

    private boolean clashByDeeds(int filled, int other) {
        for (int deed = 0; deed < deeds.size(); deed++) {
            Deed it = deeds.get(deed);
            if (it.pot == filled && livesAhead(other, deed + 1) && !(it.pouring && it.one == other)) {
                return true;
            }
        }
        return false;
    }

    private boolean isThere(int pot) {
        return wanted.contains(pot) || deeds.stream().anyMatch(it -> it.touches(pot));
    }

    private int cost(int pot) {
        return deeds.stream().mapToInt(it -> it.times(pot) * it.weight).sum();
    }

    private int costs(List<Integer> pots) {
        return pots.stream().mapToInt(this::cost).sum();
    }

    private int rivals(int pot, List<Integer> among) {
        return (int) among.stream().filter(other -> clash(pot, other)).count();
    }

    private Hung hang(int count) {
        Hung known = found.get(count);
        if (known == null) {
            known = hangAnew(count);
            found.put(count, known);
        }
        return known;
    }

    private Hung hangAnew(int count) {
        List<Integer> left = new ArrayList<>(all().stream().filter(this::isThere).toList());
        List<Integer> aside = new ArrayList<>();
        Comparator<Integer> byQuotient =
            (a, b) -> Integer.compare(cost(a) * rivals(b, left), cost(b) * rivals(a, left));
        while (!left.isEmpty()) {
            Optional<Integer> easy = left.stream().filter(pot -> rivals(pot, left) < count).findFirst();
            Integer next = easy.orElseGet(() -> count == 0 ? left.get(0) : left.stream().min(byQuotient).get());
            left.remove(next);
            aside.add(next);
        }
        int[] hook = new int[16];
        Arrays.fill(hook, -1);
        for (int turn = aside.size() - 1; turn >= 0; turn--) {
            hook[aside.get(turn)] = hookFor(aside.get(turn), hook, count);
        }
        return new Hung(aside, hook);
    }

    private int hookFor(int pot, int[] hook, int count) {
        for (int other : all()) {
            boolean poured = deeds.stream().anyMatch(it -> it.poursBetween(pot, other));
            if (poured && hook[other] >= 0 && isFreeFor(pot, hook[other], hook)) {
                return hook[other];
            }
        }
        for (int one = 0; one < count; one++) {
            if (isFreeFor(pot, one, hook)) {
                return one;
            }
        }
        return -1;
    }

    private boolean isFreeFor(int pot, int one, int[] hook) {
        return all().stream().noneMatch(other -> hook[other] == one && clash(pot, other));
    }

    private void noDeedIf(int deed) {
        indexIf(deed < 0 || deed >= deeds.size());
    }

    private static void indexIf(boolean wrong) {
        if (wrong) {
            throw new IndexOutOfBoundsException();
        }
    }

    private static void argumentIf(boolean wrong) {
        if (wrong) {
            throw new IllegalArgumentException();
        }
    }
}
