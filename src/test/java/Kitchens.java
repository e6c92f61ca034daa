/** Kitchens of several kinds, each made anew with fewer than a hundred calls. */
final class Kitchens {
    private Kitchens() {
    }

    /** Cooked deeds that fill the pot 0 and use none; the deed n weighs n % 9 + 1. */
    static HookColours withDeeds(int deeds) {
        HookColours x = new HookColours();
        for (int deed = 0; deed < deeds; deed++) {
            x.cook(0, -1, -1, deed % 9 + 1);
        }
        return x;
    }

    static HookColours wanting(int... pots) {
        HookColours x = new HookColours();
        for (int pot : pots) {
            x.want(pot, true);
        }
        return x;
    }

    static HookColours wantingFirst(int pots) {
        HookColours x = new HookColours();
        for (int pot = 0; pot < pots; pot++) {
            x.want(pot, true);
        }
        return x;
    }

    /** All 16 clash with each other; each hook has one of them. */
    static HookColours wantingAll(int hooks) {
        HookColours x = wantingFirst(16);
        x.setHooks(hooks);
        return x;
    }

    /** Five deeds, two hooks, a pot on the floor, a pouring that is spared. */
    static HookColours some() {
        HookColours x = new HookColours();
        x.setHooks(2);
        x.cook(0, -1, 15, 5);
        x.cook(1, -1, -1, 4);
        x.pour(2, 0, 3);
        x.cook(3, 1, 2, 2);
        x.pour(4, 4, 9);
        x.want(3, true);
        x.want(15, true);
        return x;
    }

    /** Thirty deeds, all 16 pots, 8 hooks. */
    static HookColours full() {
        HookColours x = new HookColours();
        for (int deed = 0; deed < 30; deed++) {
            if (deed % 3 == 0) {
                x.pour(deed % 16, (deed * 7 + 3) % 16, deed % 9 + 1);
            } else {
                x.cook(deed % 16, (deed * 5 + 1) % 17 - 1, (deed * 3) % 17 - 1, 9 - deed % 9);
            }
        }
        for (int pot = 0; pot < 16; pot += 3) {
            x.want(pot, true);
        }
        x.setHooks(8);
        return x;
    }
}
