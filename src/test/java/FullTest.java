/** What the document says of a kitchen that is full: 30 deeds, 16 pots, 8 hooks, 16 hooks tried, 512 calls. */
public final class FullTest {
    private static final int CALLS = 512;

    public static void main(String[] args) {
        thirtyCooked();
        thirtyPoured();
        roomAgainAfterDrop();
        thirtyDropped();
        allFilled();
        allUsed();
        allPouredFrom();
        allLiveAhead();
        allClashWanted();
        allClashByDeeds();
        allClashOnEachNumberOfHooks();
        allClashTried();
        eightHooks();
        wouldSixteen();
        heaviest();
        heaviestOnTheFloor();
        allButOnePoured();
        lastCallOfDearOnes();
        lastCallOfChanges();
        lastCallOfRefused();
        Due.end("FullTest");
    }

    private static void refusedAtThirty(String run, HookColours x) {
        Due.same(run + ": count(0)", x.count(0), 30);
        Due.state(run + ": cook(0, -1, -1, 1)", () -> x.cook(0, -1, -1, 1));
        Due.state(run + ": cook(15, 15, 15, 9)", () -> x.cook(15, 15, 15, 9));
        Due.state(run + ": pour(0, 1, 1)", () -> x.pour(0, 1, 1));
        Due.state(run + ": pour(15, 15, 9)", () -> x.pour(15, 15, 9));
        Due.same(run + ": count(0) still", x.count(0), 30);
        Due.index(run + ": deed(30, 0)", () -> x.deed(30, 0));
    }

    /** "At most 30"; "Throws IllegalStateException if there are 30" */
    private static void thirtyCooked() {
        HookColours x = new HookColours();
        for (int deed = 0; deed < 30; deed++) {
            Due.same("cook, the deed " + deed, x.cook(deed % 16, -1, -1, deed % 9 + 1), deed);
        }
        refusedAtThirty("30 cooked", x);
        for (int deed = 0; deed < 30; deed++) {
            Due.same("30 cooked: deed(" + deed + ", 0)", x.deed(deed, 0), deed % 16);
            Due.same("30 cooked: deed(" + deed + ", 3)", x.deed(deed, 3), deed % 9 + 1);
            Due.same("30 cooked: deed(" + deed + ", 4)", x.deed(deed, 4), 0);
        }
        Due.same("30 cooked: count(6)", x.count(6), 0);
    }

    private static void thirtyPoured() {
        HookColours x = new HookColours();
        for (int deed = 0; deed < 30; deed++) {
            Due.same("pour, the deed " + deed, x.pour(deed % 16, 15 - deed % 16, deed % 9 + 1), deed);
        }
        refusedAtThirty("30 poured", x);
        for (int deed = 0; deed < 30; deed++) {
            Due.same("30 poured: deed(" + deed + ", 1)", x.deed(deed, 1), 15 - deed % 16);
            Due.same("30 poured: deed(" + deed + ", 4)", x.deed(deed, 4), 1);
        }
        Due.same("30 poured: count(6)", x.count(6), 30);
    }

    private static void roomAgainAfterDrop() {
        for (int out : new int[] {0, 15, 29}) {
            HookColours x = Kitchens.withDeeds(30);
            Due.same("drop(" + out + ") of 30", x.drop(out), 29);
            Due.same("cook behind 29", x.cook(5, 6, 7, 8), 29);
            refusedAtThirty("30 again by cook", x);
            Due.same("deed(29, 0)", x.deed(29, 0), 5);
            Due.same("deed(28, 0)", x.deed(28, 0), 0);
            Due.same("drop(" + out + ") of 30 again", x.drop(out), 29);
            Due.same("pour behind 29", x.pour(9, 10, 3), 29);
            refusedAtThirty("30 again by pour", x);
            Due.same("deed(29, 1)", x.deed(29, 1), 10);
            Due.same("deed(29, 4)", x.deed(29, 4), 1);
        }
    }

    /** "Takes a deed out; those behind it move up."; the first each time, then the last each time */
    private static void thirtyDropped() {
        HookColours x = Kitchens.withDeeds(30);
        for (int left = 29; left >= 0; left--) {
            Due.same("drop(0), " + left + " left", x.drop(0), left);
            if (left > 0) {
                Due.same("deed(0, 3), " + left + " left", x.deed(0, 3), (30 - left) % 9 + 1);
                Due.same("deed(last, 3), " + left + " left", x.deed(left - 1, 3), 29 % 9 + 1);
            }
        }
        HookColours y = Kitchens.withDeeds(30);
        for (int left = 29; left >= 0; left--) {
            Due.same("drop(" + left + ")", y.drop(left), left);
            Due.index("deed(" + left + ", 3), dropped", () -> y.deed(y.count(0), 3));
        }
        Due.same("cook, all 30 dropped", y.cook(1, 2, 3, 4), 0);
    }

    /** All 16 are there as they are filled, and at no time two of them live. */
    private static void allFilled() {
        HookColours x = new HookColours();
        for (int pot = 15; pot >= 0; pot--) {
            x.cook(pot, -1, -1, 1);
        }
        Due.same("all filled: count(2)", x.count(2), 16);
        Due.same("all filled: count(3)", x.count(3), 0);
        Due.same("all filled: hangs(0)", x.hangs(0), 16);
        Due.same("all filled: fewest()", x.fewest(), 1);
        for (int pot = 0; pot < 16; pot++) {
            Due.same("all filled: pot(" + pot + ", 4)", x.pot(pot, 4), pot);
        }
    }

    /** Eight deeds use two each; all live ahead of the first, the 0 too, which each fills and the first one uses. */
    private static void allUsed() {
        HookColours x = new HookColours();
        for (int deed = 0; deed < 8; deed++) {
            x.cook(0, 2 * deed, 2 * deed + 1, 1);
        }
        Due.same("all used: count(2)", x.count(2), 16);
        Due.same("all used: deed(0, 6)", x.deed(0, 6), 16);
        Due.same("all used: deed(0, 5)", x.deed(0, 5), 14);
        Due.same("all used: crowd()", x.crowd(), 16);
        Due.same("all used: count(3)", x.count(3), 120);
        Due.same("all used: fewest()", x.fewest(), 16);
    }

    private static void allPouredFrom() {
        HookColours x = new HookColours();
        for (int pot = 0; pot < 16; pot++) {
            x.pour(0, pot, 1);
        }
        Due.same("all poured from: count(2)", x.count(2), 16);
        Due.same("all poured from: crowd()", x.crowd(), 16);
        Due.same("all poured from: count(6)", x.count(6), 16);
        Due.same("all poured from: pot(0, 1)", x.pot(0, 1), 17);
    }

    private static void allLiveAhead() {
        HookColours x = Kitchens.wantingFirst(16);
        x.cook(3, 3, 9, 2);
        Due.same("all live: deed(0, 5)", x.deed(0, 5), 16);
        Due.same("all live: deed(0, 6)", x.deed(0, 6), 16);
        Due.same("all live: crowd()", x.crowd(), 16);
        Due.sameMean("all live: mean()", x.mean(), 16.0);
        x.cook(3, -1, -1, 2);
        Due.same("all but one live: deed(1, 6)", x.deed(1, 6), 15);
        Due.same("all but one live: deed(0, 5)", x.deed(0, 5), 15);
        Due.sameMean("all but one live: mean()", x.mean(), 15.5);
    }

    private static void allClash(String run, HookColours x) {
        Due.same(run + ": count(2)", x.count(2), 16);
        Due.same(run + ": count(3)", x.count(3), 120);
        Due.same(run + ": fewest()", x.fewest(), 16);
        Due.same(run + ": crowd()", x.crowd(), 16);
        for (int a = 0; a < 16; a++) {
            Due.same(run + ": pot(" + a + ", 2)", x.pot(a, 2), 15);
            for (int b = 0; b < 16; b++) {
                Due.same(run + ": clash(" + a + ", " + b + ")", x.clash(a, b), a != b);
            }
        }
    }

    private static void allClashWanted() {
        allClash("all wanted", Kitchens.wantingFirst(16));
    }

    /** Filled one behind the other, and all wanted at the end. */
    private static void allClashByDeeds() {
        HookColours x = Kitchens.wantingFirst(16);
        for (int pot = 0; pot < 16; pot++) {
            x.cook(pot, -1, -1, 9);
        }
        Due.same("all by deeds: deed(0, 6)", x.deed(0, 6), 0);
        Due.same("all by deeds: deed(15, 5)", x.deed(15, 5), 16);
        Due.sameMean("all by deeds: mean()", x.mean(), 8.5);
        allClash("all by deeds", x);
    }

    /** Costs being the same, 16 - k go to the floor in the order of their numbers; the last gets the hook 0. */
    private static void allClashOnEachNumberOfHooks() {
        for (int hooks = 1; hooks <= 8; hooks++) {
            HookColours x = Kitchens.wantingAll(hooks);
            String run = "all on " + hooks + " hooks";
            Due.same(run + ": count(4)", x.count(4), 16 - hooks);
            Due.same(run + ": count(5)", x.count(5), hooks);
            for (int pot = 0; pot < 16; pot++) {
                Due.same(run + ": pot(" + pot + ", 4)", x.pot(pot, 4), pot);
                Due.same(run + ": pot(" + pot + ", 3)", x.pot(pot, 3), 15 - pot < hooks ? 15 - pot : -1);
                Due.same(run + ": pot(" + pot + ", 5)", x.pot(pot, 5), 15 - pot < hooks ? 0 : 1);
            }
        }
    }

    private static void allClashTried() {
        HookColours x = Kitchens.wantingFirst(16);
        for (int hooks = 1; hooks <= 16; hooks++) {
            Due.same("all clash: would(" + hooks + ")", x.would(hooks), 16 - hooks);
        }
        x.want(6, false);
        Due.same("15 clash: would(14)", x.would(14), 1);
        Due.same("15 clash: would(15)", x.would(15), 0);
        Due.same("15 clash: would(16)", x.would(16), 0);
        Due.same("15 clash: fewest()", x.fewest(), 15);
    }

    /** "Hooks. There are k hooks, 1 to 8" */
    private static void eightHooks() {
        HookColours x = Kitchens.wantingFirst(8);
        x.setHooks(8);
        for (int pot = 0; pot < 8; pot++) {
            Due.same("8 on 8 hooks: pot(" + pot + ", 3)", x.pot(pot, 3), 7 - pot);
            Due.same("8 on 8 hooks: hangs(" + pot + ")", x.hangs(pot), 1);
        }
        Due.same("8 on 8 hooks: count(4)", x.count(4), 0);
        Due.same("8 on 8 hooks: count(5)", x.count(5), 8);
        x.want(8, true);
        Due.same("9 on 8 hooks: count(4)", x.count(4), 1);
        Due.same("9 on 8 hooks: pot(0, 5)", x.pot(0, 5), 1);
        Due.same("9 on 8 hooks: pot(8, 3)", x.pot(8, 3), 0);
        Due.same("9 on 8 hooks: count(5)", x.count(5), 8);
        x.setHooks(7);
        Due.same("9 on 7 hooks: count(4)", x.count(4), 2);
        Due.index("9 on 7 hooks: hangs(7)", () -> x.hangs(7));
    }

    /** More hooks are tried than there can be; those that there are stay. */
    private static void wouldSixteen() {
        for (int hooks : new int[] {1, 3, 8}) {
            HookColours x = Kitchens.wantingAll(hooks);
            Due.same("would(9) with " + hooks, x.would(9), 7);
            Due.same("would(16) with " + hooks, x.would(16), 0);
            Due.same("fewest() with " + hooks, x.fewest(), 16);
            Due.same("count(1) still " + hooks, x.count(1), hooks);
            Due.same("count(4) still with " + hooks, x.count(4), 16 - hooks);
        }
        HookColours y = Kitchens.full();
        Due.same("would(16) with 30 deeds", y.would(16), 0);
    }

    /** "of a deed that does so twice or thrice so often": 30 deeds of the weight 9, each thrice */
    private static void heaviest() {
        HookColours x = new HookColours();
        for (int deed = 0; deed < 30; deed++) {
            x.cook(15, 15, 15, 9);
        }
        Due.same("heaviest: pot(15, 1)", x.pot(15, 1), 810);
        Due.same("heaviest: count(9)", x.count(9), 270);
        Due.same("heaviest: count(8)", x.count(8), 0);
        HookColours y = new HookColours();
        for (int deed = 0; deed < 30; deed++) {
            y.pour(15, 15, 9);
        }
        Due.same("heaviest poured: pot(15, 1)", y.pot(15, 1), 540);
        Due.same("heaviest poured: count(7)", y.count(7), 30);
        Due.same("heaviest poured: count(9)", y.count(9), 0);
    }

    /** Both cost 405 and clash with one, so that the first of them is put aside first, and hangs nowhere. */
    private static void heaviestOnTheFloor() {
        HookColours x = Kitchens.wanting(0, 1);
        x.setHooks(1);
        for (int deed = 0; deed < 15; deed++) {
            x.cook(0, 0, 0, 9);
            x.cook(1, 1, 1, 9);
        }
        Due.same("heaviest on the floor: count(8)", x.count(8), 405);
        Due.same("heaviest on the floor: pot(0, 5)", x.pot(0, 5), 1);
        Due.same("heaviest on the floor: count(9)", x.count(9), 270);
        Due.same("heaviest on the floor: advise()", x.advise(), 0);
        x.drop(0);
        Due.same("heaviest on the floor, one dropped: count(8)", x.count(8), 378);
    }

    /** 15 pots poured from the pot 15, none of which clash; all hang at one hook. */
    private static void allButOnePoured() {
        HookColours x = new HookColours();
        for (int pot = 0; pot < 15; pot++) {
            x.pour(pot, 15, 1);
        }
        Due.same("all poured from one: count(3)", x.count(3), 0);
        Due.same("all poured from one: count(7)", x.count(7), 15);
        Due.same("all poured from one: count(9)", x.count(9), 0);
        Due.same("all poured from one: hangs(0)", x.hangs(0), 16);
    }

    /** "An object is used for at most 512 calls": the last of them is answered as the first. */
    private static void lastCallOfDearOnes() {
        HookColours x = Kitchens.full();
        long digest = x.digest();
        int fewest = x.fewest();
        int advise = x.advise();
        int would = x.would(3);
        int calls = 30 + 6 + 1 + 4;
        while (calls + 4 <= CALLS - 4) {
            x.digest();
            x.fewest();
            x.advise();
            x.would(16);
            calls += 4;
        }
        while (calls < CALLS - 4) {
            x.advise();
            calls++;
        }
        Due.same("call 509: fewest()", x.fewest(), fewest);
        Due.same("call 510: advise()", x.advise(), advise);
        Due.same("call 511: would(3)", x.would(3), would);
        Due.same("call 512: digest()", x.digest(), digest);
    }

    private static void lastCallOfChanges() {
        HookColours x = Kitchens.withDeeds(29);
        int calls = 29;
        while (calls < CALLS - 3) {
            Due.same("call " + calls + ": cook", x.cook(1, 2, 3, 4), 29);
            Due.same("call " + calls + ": drop", x.drop(29), 29);
            calls += 2;
        }
        Due.same("call 510: pour", x.pour(4, 5, 6), 29);
        Due.same("call 511: drop(29)", x.drop(29), 29);
        Due.same("call 512: digest()", x.digest(), Kitchens.withDeeds(29).digest());
    }

    private static void lastCallOfRefused() {
        HookColours x = new HookColours();
        for (int call = 1; call < CALLS; call++) {
            switch (call % 4) {
                case 0 -> Due.index("cook(16, 0, 0, 1)", () -> x.cook(16, 0, 0, 1));
                case 1 -> Due.argument("pour(0, 0, 0)", () -> x.pour(0, 0, 0));
                case 2 -> Due.index("drop(0)", () -> x.drop(0));
                default -> Due.argument("would(17)", () -> x.would(17));
            }
        }
        Due.same("call 512: digest()", x.digest(), new HookColours().digest());
    }
}
