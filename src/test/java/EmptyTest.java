/** What the document says of a kitchen where something is missing: no deeds, no pots, nothing used, nothing wanted. */
public final class EmptyTest {
    private static final int[] DEEDS = {-1, 0, 1, 29, 30, Integer.MIN_VALUE, Integer.MAX_VALUE};

    public static void main(String[] args) {
        noDeedToName(new HookColours(), "new object");
        noDeedToName(Kitchens.wantingFirst(16), "all wanted");
        noDeedToName(emptied(), "emptied");
        countsOfNone();
        noPotThere();
        crowdOfNone();
        wouldOfNone();
        fewestOfNone();
        adviseOfNone();
        meanOfNone();
        digestOfNone();
        wantedWithoutDeeds();
        oneWantedWithoutDeeds();
        deedThatUsesNone();
        deedThatUsesOneOnly();
        nothingLives();
        hooksWithNone();
        oneDeedToAdvise();
        emptiedIsNew();
        wantedStays();
        Due.end("EmptyTest");
    }

    /** Two deeds and two pots wanted, all taken back. */
    private static HookColours emptied() {
        HookColours x = Kitchens.wanting(3, 15);
        x.cook(0, 1, 15, 9);
        x.pour(3, 0, 8);
        x.drop(0);
        x.drop(0);
        x.want(3, false);
        x.want(15, false);
        return x;
    }

    private static void counts(String run, HookColours x, int... due) {
        for (int what = 0; what < due.length; what++) {
            Due.same(run + ": count(" + what + ")", x.count(what), due[what]);
        }
    }

    /** "Throws IndexOutOfBoundsException if there is no such deed" */
    private static void noDeedToName(HookColours x, String run) {
        for (int deed : DEEDS) {
            Due.index(run + ": drop(" + deed + ")", () -> x.drop(deed));
            Due.index(run + ": lives(0, " + deed + ")", () -> x.lives(0, deed));
            for (int what : new int[] {0, 5, 6, 7}) {
                Due.index(run + ": deed(" + deed + ", " + what + ")", () -> x.deed(deed, what));
            }
        }
    }

    /** "Creates a kitchen without deeds, with 3 hooks." */
    private static void countsOfNone() {
        counts("new object", new HookColours(), 0, 3, 0, 0, 0, 0, 0, 0, 0, 0);
    }

    /** "its hook, -1 on the floor or if it is not there"; "the place ..., -1 if it is not there" */
    private static void noPotThere() {
        HookColours x = new HookColours();
        int[] due = {0, 0, 0, -1, -1, 0};
        for (int pot = 0; pot < 16; pot++) {
            for (int what = 0; what < 6; what++) {
                Due.same("new object: pot(" + pot + ", " + what + ")", x.pot(pot, what), due[what]);
            }
            Due.same("new object: clash(" + pot + ", " + (15 - pot) + ")", x.clash(pot, 15 - pot), false);
        }
        HookColours y = Kitchens.some();
        for (int what = 0; what < 6; what++) {
            Due.same("others are there: pot(7, " + what + ")", y.pot(7, what), due[what]);
        }
        for (int pot = 0; pot < 16; pot++) {
            Due.same("none wanted at first: want(" + pot + ", true)", x.want(pot, true), false);
        }
    }

    private static void crowdOfNone() {
        Due.same("crowd() of a new object", new HookColours().crowd(), 0);
        Due.same("crowd() of an emptied one", emptied().crowd(), 0);
    }

    private static void wouldOfNone() {
        HookColours x = new HookColours();
        for (int hooks = 1; hooks <= 16; hooks++) {
            Due.same("would(" + hooks + ") of a new object", x.would(hooks), 0);
        }
    }

    /** "0 if no pot is there" */
    private static void fewestOfNone() {
        Due.same("fewest() of a new object", new HookColours().fewest(), 0);
        Due.same("fewest() of an emptied one", emptied().fewest(), 0);
        HookColours x = Kitchens.wanting(15);
        Due.same("fewest() of one pot", x.fewest(), 1);
        x.want(15, false);
        Due.same("fewest() of no pot any more", x.fewest(), 0);
    }

    /** "-1 without deeds" */
    private static void adviseOfNone() {
        Due.same("advise() of a new object", new HookColours().advise(), -1);
        Due.same("advise() of an emptied one", emptied().advise(), -1);
        Due.same("advise() with pots on the floor", Kitchens.wantingAll(1).advise(), -1);
    }

    /** "0 without any" */
    private static void meanOfNone() {
        Due.sameMean("mean() of a new object", new HookColours().mean(), 0.0);
        Due.sameMean("mean() of an emptied one", emptied().mean(), 0.0);
        Due.sameMean("mean() of all wanted", Kitchens.wantingFirst(16).mean(), 0.0);
    }

    /** Nothing is taken in for deeds; the pots are taken in also if they are not there. */
    private static void digestOfNone() {
        long d = 1609;
        for (int what = 0; what < 10; what++) {
            d = d * 31 + (what == 1 ? 3 : 0);
        }
        for (int pot = 0; pot < 16; pot++) {
            for (int x : new int[] {0, 0, 0, -1, -1, 0, 0, 0}) {
                d = d * 31 + x;
            }
        }
        Due.same("digest() of a new object", new HookColours().digest(), d);
        Due.same("digest() of an emptied one", emptied().digest(), d);
    }

    /** "Without deeds those that are wanted at the end live all the same, ahead of all."; they clash with each other */
    private static void wantedWithoutDeeds() {
        HookColours x = Kitchens.wanting(0, 7, 15);
        x.setHooks(2);
        Due.same("wanted: crowd()", x.crowd(), 3);
        Due.same("wanted: fewest()", x.fewest(), 3);
        Due.same("wanted: advise()", x.advise(), -1);
        Due.sameMean("wanted: mean()", x.mean(), 0.0);
        counts("wanted", x, 0, 2, 3, 3, 1, 2, 0, 0, 0, 0);
        int[] due = {2, 1, 0};
        for (int hooks = 1; hooks <= 3; hooks++) {
            Due.same("wanted: would(" + hooks + ")", x.would(hooks), due[hooks - 1]);
        }
        for (int pot = 0; pot < 16; pot++) {
            boolean wanted = pot == 0 || pot == 7 || pot == 15;
            Due.same("wanted: pot(" + pot + ", 0)", x.pot(pot, 0), wanted ? 1 : 0);
            Due.same("wanted: pot(" + pot + ", 1)", x.pot(pot, 1), 0);
            Due.same("wanted: pot(" + pot + ", 2)", x.pot(pot, 2), wanted ? 2 : 0);
            Due.same("wanted: clash(7, " + pot + ")", x.clash(7, pot), pot == 0 || pot == 15);
        }
    }

    private static void oneWantedWithoutDeeds() {
        HookColours x = Kitchens.wanting(15);
        counts("one wanted", x, 0, 3, 1, 0, 0, 1, 0, 0, 0, 0);
        int[] due = {1, 0, 0, 0, 0, 0};
        for (int what = 0; what < 6; what++) {
            Due.same("one wanted: pot(15, " + what + ")", x.pot(15, what), due[what]);
        }
        Due.same("one wanted: crowd()", x.crowd(), 1);
        Due.same("one wanted: hangs(0)", x.hangs(0), 1);
    }

    /** "and uses one pot, two pots, or none" */
    private static void deedThatUsesNone() {
        HookColours x = new HookColours();
        x.cook(15, -1, -1, 9);
        int[] deed = {15, -1, -1, 9, 0, 0, 0};
        for (int what = 0; what < 7; what++) {
            Due.same("uses none: deed(0, " + what + ")", x.deed(0, what), deed[what]);
        }
        int[] pot = {1, 9, 0, 0, 0, 0};
        for (int what = 0; what < 6; what++) {
            Due.same("uses none: pot(15, " + what + ")", x.pot(15, what), pot[what]);
        }
        counts("uses none", x, 1, 3, 1, 0, 0, 1, 0, 0, 0, 9);
        Due.same("uses none: crowd()", x.crowd(), 0);
        Due.same("uses none: fewest()", x.fewest(), 1);
        Due.same("uses none: advise()", x.advise(), 0);
    }

    /** Of the two that are used the first alone, or the other alone, is -1. */
    private static void deedThatUsesOneOnly() {
        HookColours x = new HookColours();
        x.cook(1, -1, 0, 4);
        x.cook(1, 0, -1, 5);
        Due.same("uses the other: deed(0, 1)", x.deed(0, 1), -1);
        Due.same("uses the other: deed(0, 2)", x.deed(0, 2), 0);
        Due.same("uses the first: deed(1, 1)", x.deed(1, 1), 0);
        Due.same("uses the first: deed(1, 2)", x.deed(1, 2), -1);
        Due.same("uses one: deed(0, 6)", x.deed(0, 6), 1);
        Due.same("uses one: deed(1, 6)", x.deed(1, 6), 1);
        Due.same("uses one: pot(0, 1)", x.pot(0, 1), 9);
        Due.same("uses one: count(2)", x.count(2), 2);
    }

    /** Deeds there are, but behind none of them lives a pot: nothing clashes, and one hook does. */
    private static void nothingLives() {
        HookColours x = new HookColours();
        x.cook(0, -1, -1, 1);
        x.cook(1, -1, -1, 1);
        x.cook(2, -1, -1, 1);
        Due.sameMean("nothing lives: mean()", x.mean(), 0.0);
        Due.same("nothing lives: crowd()", x.crowd(), 0);
        counts("nothing lives", x, 3, 3, 3, 0, 0, 1, 0, 0, 0, 3);
        Due.same("nothing lives: hangs(0)", x.hangs(0), 3);
        Due.same("nothing lives: fewest()", x.fewest(), 1);
    }

    private static void hooksWithNone() {
        HookColours x = new HookColours();
        x.setHooks(8);
        for (int hook = 0; hook < 8; hook++) {
            Due.same("no pot: hangs(" + hook + ")", x.hangs(hook), 0);
        }
        x.want(4, true);
        for (int hook = 0; hook < 8; hook++) {
            Due.same("one pot: hangs(" + hook + ")", x.hangs(hook), hook == 0 ? 1 : 0);
        }
    }

    /** The kitchen is empty without the only deed; it is the one to drop, whatever the floor costs. */
    private static void oneDeedToAdvise() {
        HookColours x = Kitchens.wanting(0, 1);
        x.setHooks(1);
        x.cook(0, 1, 0, 9);
        Due.same("one deed: advise()", x.advise(), 0);
        x.drop(0);
        Due.same("dropped: advise()", x.advise(), -1);
    }

    private static void emptiedIsNew() {
        Told.same("emptied", Told.of(EmptyTest::emptied), Told.of(HookColours::new));
    }

    /** Without its deeds a kitchen is as if they had never been there; wishes and hooks stay. */
    private static void wantedStays() {
        HookColours some = Kitchens.some();
        for (int deed = 4; deed >= 0; deed--) {
            Due.same("drop(" + deed + ")", some.drop(deed), deed);
        }
        HookColours due = Kitchens.wanting(3, 15);
        due.setHooks(2);
        Due.same("digest() with all deeds dropped", some.digest(), due.digest());
    }
}
