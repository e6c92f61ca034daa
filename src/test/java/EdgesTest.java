/** The edges that the document's terms name, a test for each sentence. Answers are worked out by hand. */
public final class EdgesTest {
    public static void main(String[] args) {
        firstAndLastPot();
        cookedLikeAPouring();
        filledAndUsed();
        filledAndUsedAndWanted();
        filledAgainUnused();
        wantedNotFilled();
        thereByEachReasonAlone();
        thereNoMore();
        namedTwice();
        namedThrice();
        filledForNothing();
        pouredFromIsSpared();
        pouredFromButOthersAreNot();
        clashByAnotherDeed();
        clashAheadOfAllThoughPoured();
        clashByTheSamePouringAgain();
        aheadOfTheFirst();
        mutual();
        neverWithItself();
        Due.end("EdgesTest");
    }

    private static void clashesOf(String run, HookColours x, int pot, int... due) {
        boolean[] clashes = new boolean[16];
        for (int other : due) {
            clashes[other] = true;
        }
        for (int other = 0; other < 16; other++) {
            Due.same(run + ": clash(" + pot + ", " + other + ")", x.clash(pot, other), clashes[other]);
        }
        Due.same(run + ": pot(" + pot + ", 2)", x.pot(pot, 2), due.length);
    }

    private static void livesBehind(String run, HookColours x, int deed, int... due) {
        boolean[] lives = new boolean[16];
        for (int pot : due) {
            lives[pot] = true;
        }
        for (int pot = 0; pot < 16; pot++) {
            Due.same(run + ": lives(" + pot + ", " + deed + ")", x.lives(pot, deed), lives[pot]);
        }
        Due.same(run + ": deed(" + deed + ", 5)", x.deed(deed, 5), due.length);
    }

    /** "There are 16, numbered from 0." */
    private static void firstAndLastPot() {
        HookColours x = new HookColours();
        x.cook(0, 15, -1, 1);
        x.cook(15, -1, 0, 2);
        x.pour(0, 15, 3);
        x.pour(15, 0, 4);
        x.want(0, true);
        x.want(15, true);
        // Behind the last both live, and ahead of each deed the one from which the other is filled.
        livesBehind("first and last", x, 3, 0, 15);
        livesBehind("first and last", x, 2, 0);
        livesBehind("first and last", x, 1, 15);
        livesBehind("first and last", x, 0, 0);
        Due.same("first and last: deed(0, 6)", x.deed(0, 6), 1);
        clashesOf("first and last", x, 0);
        Due.same("first and last: pot(0, 1)", x.pot(0, 1), 10);
        Due.same("first and last: pot(15, 1)", x.pot(15, 1), 10);
        Due.same("first and last: count(7)", x.count(7), 2);
        Due.same("first and last: count(9)", x.count(9), 3);
        Due.same("first and last: hangs(0)", x.hangs(0), 2);
    }

    /** "it is a pouring, if it was told as such": a cooked deed that uses one pot is none. */
    private static void cookedLikeAPouring() {
        HookColours x = new HookColours();
        x.cook(1, 0, -1, 5);
        x.want(0, true);
        Due.same("cooked: deed(0, 4)", x.deed(0, 4), 0);
        Due.same("cooked: count(6)", x.count(6), 0);
        Due.same("cooked: count(7)", x.count(7), 0);
        Due.same("cooked: count(9)", x.count(9), 5);
        clashesOf("cooked", x, 1, 0);
        HookColours y = new HookColours();
        y.pour(1, 0, 5);
        y.want(0, true);
        Due.same("poured: deed(0, 4)", y.deed(0, 4), 1);
        Due.same("poured: count(6)", y.count(6), 1);
        Due.same("poured: count(7)", y.count(7), 1);
        Due.same("poured: count(9)", y.count(9), 0);
        clashesOf("poured", y, 1);
        // The pots 0 and 2 hang at the hook 0, as nothing clashes; cooked deeds that link them are no pourings.
        HookColours z = new HookColours();
        z.cook(2, 0, -1, 3);
        Due.same("cooked, at the same hook: count(5)", z.count(5), 1);
        Due.same("cooked, at the same hook: count(7)", z.count(7), 0);
        Due.same("cooked, at the same hook: count(9)", z.count(9), 3);
    }

    /** "Ahead of a deed those live that it uses (also if it fills it as well)" */
    private static void filledAndUsed() {
        for (int way = 0; way < 3; way++) {
            HookColours x = new HookColours();
            switch (way) {
                case 0 -> x.cook(5, 5, -1, 3);
                case 1 -> x.cook(5, -1, 5, 3);
                default -> x.pour(5, 5, 3);
            }
            String run = "filled and used, way " + way;
            Due.same(run + ": deed(0, 6)", x.deed(0, 6), 1);
            livesBehind(run, x, 0);
            Due.same(run + ": crowd()", x.crowd(), 1);
            Due.same(run + ": pot(5, 1)", x.pot(5, 1), 6);
            Due.same(run + ": count(2)", x.count(2), 1);
        }
        HookColours y = new HookColours();
        y.cook(5, -1, -1, 3);
        Due.same("filled, not used: deed(0, 6)", y.deed(0, 6), 0);
        Due.same("filled, not used: crowd()", y.crowd(), 0);
    }

    /** The pot lives on both sides, and the other one that is wanted clashes with it. */
    private static void filledAndUsedAndWanted() {
        HookColours x = Kitchens.wanting(5, 6);
        x.cook(5, 5, -1, 3);
        x.cook(5, 7, 5, 1);
        livesBehind("filled, used and wanted", x, 1, 5, 6);
        livesBehind("filled, used and wanted", x, 0, 5, 6, 7);
        Due.same("filled, used and wanted: deed(1, 6)", x.deed(1, 6), 3);
        Due.same("filled, used and wanted: deed(0, 6)", x.deed(0, 6), 3);
        clashesOf("filled, used and wanted", x, 5, 6, 7);
    }

    /** "and, but for the pot that it fills, those that live behind it" */
    private static void filledAgainUnused() {
        HookColours x = Kitchens.wanting(5);
        x.cook(5, -1, -1, 1);
        x.cook(6, -1, -1, 1);
        x.cook(5, -1, -1, 1);
        livesBehind("filled again", x, 2, 5);
        livesBehind("filled again", x, 1);
        livesBehind("filled again", x, 0);
        Due.same("filled again: deed(2, 6)", x.deed(2, 6), 0);
        clashesOf("filled again", x, 5);
        clashesOf("filled again", x, 6);
    }

    /** A pot that is wanted, and that no deed fills, lives all the time. */
    private static void wantedNotFilled() {
        HookColours x = Kitchens.wanting(15);
        x.cook(0, -1, -1, 1);
        x.cook(1, 0, -1, 1);
        livesBehind("wanted, not filled", x, 0, 0, 15);
        livesBehind("wanted, not filled", x, 1, 15);
        Due.same("wanted, not filled: deed(0, 6)", x.deed(0, 6), 1);
        clashesOf("wanted, not filled", x, 15, 0, 1);
        clashesOf("wanted, not filled", x, 1, 15);
        Due.same("wanted, not filled: pot(15, 1)", x.pot(15, 1), 0);
    }

    /** "A pot is there, if some deed fills or uses it, or if it is wanted at the end." */
    private static void thereByEachReasonAlone() {
        HookColours x = new HookColours();
        x.setHooks(8);
        x.cook(1, 2, 3, 1);
        x.pour(4, 5, 1);
        x.want(6, true);
        for (int pot = 0; pot < 16; pot++) {
            boolean due = pot >= 1 && pot <= 6;
            Due.same("there: pot(" + pot + ", 0)", x.pot(pot, 0), due ? 1 : 0);
            Due.same("there: pot(" + pot + ", 4) told", x.pot(pot, 4) >= 0, due);
            Due.same("there: pot(" + pot + ", 3) told", x.pot(pot, 3) >= 0, due);
        }
        Due.same("there: count(2)", x.count(2), 6);
    }

    private static void thereNoMore() {
        HookColours x = new HookColours();
        x.cook(1, 2, 3, 1);
        x.pour(3, 1, 1);
        x.want(1, true);
        x.drop(0);
        Due.same("no more: count(2)", x.count(2), 2);
        Due.same("no more: pot(2, 0)", x.pot(2, 0), 0);
        Due.same("no more: pot(3, 0)", x.pot(3, 0), 1);
        x.drop(0);
        Due.same("no more: pot(3, 0), dropped", x.pot(3, 0), 0);
        Due.same("no more: pot(1, 0), still wanted", x.pot(1, 0), 1);
        x.want(1, false);
        Due.same("no more: count(2), none wanted", x.count(2), 0);
    }

    /** "of a deed that does so twice or thrice so often"; it lives but once. */
    private static void namedTwice() {
        HookColours x = new HookColours();
        x.cook(7, 4, 4, 5);
        Due.same("used twice: deed(0, 1)", x.deed(0, 1), 4);
        Due.same("used twice: deed(0, 2)", x.deed(0, 2), 4);
        Due.same("used twice: deed(0, 6)", x.deed(0, 6), 1);
        Due.same("used twice: pot(4, 1)", x.pot(4, 1), 10);
        Due.same("used twice: pot(7, 1)", x.pot(7, 1), 5);
        Due.same("used twice: count(2)", x.count(2), 2);
        Due.same("used twice: count(3)", x.count(3), 0);
        Due.same("used twice: crowd()", x.crowd(), 1);
        Due.same("used twice: count(9)", x.count(9), 5);
    }

    private static void namedThrice() {
        HookColours x = new HookColours();
        x.cook(4, 4, 4, 7);
        Due.same("named thrice: pot(4, 1)", x.pot(4, 1), 21);
        Due.same("named thrice: deed(0, 6)", x.deed(0, 6), 1);
        Due.same("named thrice: deed(0, 5)", x.deed(0, 5), 0);
        Due.same("named thrice: count(9)", x.count(9), 7);
        x.cook(4, -1, -1, 2);
        x.cook(4, -1, 4, 3);
        Due.same("named thrice, once and twice: pot(4, 1)", x.pot(4, 1), 29);
    }

    /** "(whether that lives behind it or not)" */
    private static void filledForNothing() {
        HookColours x = Kitchens.wanting(1, 2);
        x.cook(1, -1, -1, 1);
        x.cook(9, -1, -1, 1);
        x.cook(2, -1, -1, 1);
        livesBehind("filled for nothing", x, 1, 1);
        clashesOf("filled for nothing", x, 9, 1);
        clashesOf("filled for nothing", x, 1, 2, 9);
        HookColours y = Kitchens.wanting(1);
        y.pour(9, 8, 1);
        livesBehind("poured for nothing", y, 0, 1);
        clashesOf("poured for nothing", y, 9, 1);
        clashesOf("poured for nothing", y, 8, 1);
    }

    /** "but, with a pouring, for that from which it pours": it lives on, and does not clash. */
    private static void pouredFromIsSpared() {
        HookColours x = Kitchens.wanting(1, 2);
        x.cook(1, -1, -1, 4);
        x.pour(2, 1, 3);
        livesBehind("poured from", x, 1, 1, 2);
        clashesOf("poured from", x, 1);
        clashesOf("poured from", x, 2);
        Due.same("poured from: count(5)", x.count(5), 1);
        Due.same("poured from: fewest()", x.fewest(), 1);
    }

    private static void pouredFromButOthersAreNot() {
        HookColours x = Kitchens.wanting(1, 2, 3);
        x.cook(3, -1, -1, 1);
        x.cook(1, -1, -1, 4);
        x.pour(2, 1, 3);
        clashesOf("others", x, 2, 3);
        clashesOf("others", x, 1, 3);
        clashesOf("others", x, 3, 1, 2);
    }

    /** "(which it can clash with by another deed)": one ahead of the pouring, one behind it, one that fills either. */
    private static void clashByAnotherDeed() {
        HookColours x = Kitchens.wanting(1, 2);
        x.pour(2, 1, 3);
        x.cook(1, -1, -1, 4);
        clashesOf("filled anew behind", x, 1, 2);
        Due.same("filled anew behind: count(7)", x.count(7), 0);
        HookColours y = Kitchens.wanting(1, 2);
        y.pour(2, 1, 3);
        y.cook(2, -1, -1, 4);
        clashesOf("the other filled anew behind", y, 1, 2);
        // Ahead of the pouring the 2 is filled while the 1 lives.
        HookColours z = new HookColours();
        z.cook(1, -1, -1, 1);
        z.cook(2, -1, -1, 1);
        z.cook(3, 2, -1, 1);
        z.pour(2, 1, 3);
        clashesOf("filled ahead", z, 2, 1);
        Due.same("filled ahead: count(6)", z.count(6), 1);
        Due.same("filled ahead: count(7)", z.count(7), 0);
    }

    /** Both live ahead of the first deed, though the one is poured from the other later; the 3 is filled meanwhile. */
    private static void clashAheadOfAllThoughPoured() {
        HookColours x = new HookColours();
        x.cook(3, 2, 1, 1);
        x.pour(2, 1, 3);
        clashesOf("ahead of all", x, 1, 2, 3);
        clashesOf("ahead of all", x, 2, 1);
        Due.same("ahead of all: count(7)", x.count(7), 0);
        Due.same("ahead of all: count(9)", x.count(9), 4);
    }

    /** Poured to and fro: neither pouring makes them clash, and both are spared. */
    private static void clashByTheSamePouringAgain() {
        HookColours x = Kitchens.wanting(1, 2);
        x.pour(2, 1, 3);
        x.pour(1, 2, 4);
        x.pour(2, 1, 5);
        clashesOf("to and fro", x, 1);
        Due.same("to and fro: count(6)", x.count(6), 3);
        Due.same("to and fro: count(7)", x.count(7), 3);
        Due.same("to and fro: count(9)", x.count(9), 0);
    }

    /** "Pots that live ahead of the first deed (or without deeds) clash with each other as well." */
    private static void aheadOfTheFirst() {
        HookColours x = new HookColours();
        x.cook(9, 0, 15, 1);
        x.pour(9, 7, 1);
        clashesOf("ahead of the first", x, 0, 7, 15);
        clashesOf("ahead of the first", x, 7, 0, 9, 15);
        clashesOf("ahead of the first", x, 9, 7);
        x.drop(1);
        clashesOf("ahead of the first, 7 dropped", x, 0, 15);
        x.drop(0);
        clashesOf("nothing dropped any more", x, 0);
        x.want(0, true);
        x.want(15, true);
        clashesOf("without deeds", x, 0, 15);
    }

    /** "Clashing is mutual." */
    private static void mutual() {
        HookColours x = Kitchens.full();
        for (int a = 0; a < 16; a++) {
            for (int b = 0; b < a; b++) {
                Due.same("full: clash(" + a + ", " + b + ")", x.clash(a, b), x.clash(b, a));
            }
        }
        HookColours y = Kitchens.wanting(8);
        y.cook(2, -1, -1, 1);
        Due.same("clash(2, 8)", y.clash(2, 8), true);
        Due.same("clash(8, 2)", y.clash(8, 2), true);
    }

    /** "(a pot never does with itself)" */
    private static void neverWithItself() {
        HookColours x = Kitchens.wantingFirst(16);
        for (int pot = 0; pot < 16; pot++) {
            x.cook(pot, pot, pot, 1);
        }
        for (int pot = 0; pot < 14; pot++) {
            x.pour(pot, pot, 1);
        }
        for (int pot = 0; pot < 16; pot++) {
            Due.same("clash(" + pot + ", " + pot + ")", x.clash(pot, pot), false);
            Due.same("pot(" + pot + ", 2)", x.pot(pot, 2), 15);
        }
    }
}
