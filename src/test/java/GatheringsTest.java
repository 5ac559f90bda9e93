/** Promises 14 to 18, 23 and 26: utensil, lend, mend, quarrel, hold, ofUtensil, plan. */
public final class GatheringsTest {
    public static void main(String[] args) {
        utensil();
        utensilRefused();
        lend();
        lendRefused();
        mend();
        mendRefused();
        quarrel();
        hold();
        holdGifts();
        holdRefused();
        seenIsForgotten();
        planSeasons();
        planOwnersAndBroken();
        planSeenThemesQuarrels();
        planOfSeveral();
        planRefused();
        ofUtensilRefused();
        Check.end("GatheringsTest");
    }

    private static void utensil() {
        Iemotohall x = Halls.flat(2);
        Check.is("utensil(1, 3, 2, 9, 8)", x.utensil(1, 3, 2, 9, 8), 0);
        Check.is("utensil(0, 0, -1, 0, 1)", x.utensil(0, 0, -1, 0, 1), 1);
        int[] first = {3, 2, 9, 8, 1, 0, 0, 0};
        int[] second = {0, -1, 0, 1, 0, 0, 0, 0};
        for (int what = 0; what < first.length; what++) {
            Check.is("ofUtensil(0, " + what + ")", x.ofUtensil(0, what), first[what]);
            Check.is("ofUtensil(1, " + what + ")", x.ofUtensil(1, what), second[what]);
        }
        Check.is("coins of 1", x.ofPerson(1, 3), 28);
        Check.is("utensil for all the 28 coins", x.utensil(1, 0, 3, 0, 7), 2);
        Check.is("coins of 1", x.ofPerson(1, 3), 0);
        Check.is("utensils", x.many(6), 3);
    }

    private static void utensilRefused() {
        Iemotohall x = Halls.flat(2);
        Check.index(x, "of no such person", () -> x.utensil(2, 4, 0, 0, 1));
        Check.index(x, "of the person -1", () -> x.utensil(-1, 0, 0, 0, 1));
        Check.argument(x, "of the kind 4", () -> x.utensil(0, 4, 0, 0, 1));
        Check.argument(x, "of the kind -1", () -> x.utensil(0, -1, 0, 0, 1));
        Check.argument(x, "of the season 4", () -> x.utensil(0, 0, 4, 0, 1));
        Check.argument(x, "of the season -2", () -> x.utensil(0, 0, -2, 0, 1));
        Check.argument(x, "of the theme 10", () -> x.utensil(0, 0, 0, 10, 1));
        Check.argument(x, "of the theme -1", () -> x.utensil(0, 0, 0, -1, 1));
        Check.argument(x, "of the rank 0", () -> x.utensil(0, 0, 0, 0, 0));
        Check.argument(x, "of the rank 10", () -> x.utensil(0, 0, 0, 0, 10));
        x.utensil(1, 0, 0, 0, 9);
        Check.state(x, "for 24 coins", () -> x.utensil(1, 0, 0, 0, 7));
        x.utensil(1, 0, 0, 0, 5);
        x.pass(3);
        Check.state(x, "for 7 coins", () -> x.utensil(1, 0, 0, 0, 2));
        x.die(1);
        Check.state(x, "by a dead one", () -> x.utensil(1, 0, 0, 0, 1));
        Check.argument(x, "by a dead one, of the rank 0", () -> x.utensil(1, 0, 0, 0, 0));
        for (int u = 2; u < 12; u++) {
            Check.is("utensil " + u, x.utensil(0, 0, 0, 0, 1), u);
        }
        Check.state(x, "the 13th", () -> x.utensil(0, 0, 0, 0, 1));
        Check.is("utensils", x.many(6), 12);
    }

    private static void lend() {
        Iemotohall x = Halls.flat(3);
        x.utensil(0, 0, -1, 0, 1);
        Check.is("lend(0, 1)", x.lend(0, 1), 0);
        Check.is("lend(0, 1) again", x.lend(0, 1), 1);
        Check.is("owner", x.ofUtensil(0, 4), 1);
        x.mend(0, false);
        x.die(1);
        Check.is("lend(0, 2), broken and of a dead one", x.lend(0, 2), 1);
        Check.is("owner", x.ofUtensil(0, 4), 2);
    }

    private static void lendRefused() {
        Iemotohall x = Halls.flat(2);
        x.utensil(0, 0, -1, 0, 1);
        Check.index(x, "lend(1, 0)", () -> x.lend(1, 0));
        Check.index(x, "lend(-1, 0)", () -> x.lend(-1, 0));
        Check.index(x, "lend(0, 2)", () -> x.lend(0, 2));
        Check.index(x, "lend(0, -1)", () -> x.lend(0, -1));
        x.die(1);
        Check.state(x, "lend(0, 1), dead", () -> x.lend(0, 1));
    }

    private static void mend() {
        Iemotohall x = Halls.flat(2);
        x.utensil(0, 0, -1, 0, 8);
        x.lend(0, 1);
        Check.is("it breaks", x.mend(0, false), 8);
        Check.is("broken", x.ofUtensil(0, 5), 1);
        Check.is("it is joined", x.mend(0, true), 9);
        Check.is("broken", x.ofUtensil(0, 5), 0);
        Check.is("coins of the owner", x.ofPerson(1, 3), 52);
        Check.is("coins of the one before", x.ofPerson(0, 3), 28);
        x.mend(0, false);
        Check.is("it is joined again: 9 at most", x.mend(0, true), 9);
        Check.is("coins of the owner", x.ofPerson(1, 3), 44);
        Check.is("rank", x.ofUtensil(0, 3), 9);
        x.utensil(1, 0, -1, 0, 9);
        x.mend(1, false);
        x.mend(1, true);
        Check.is("joined for all the 8 coins", x.ofPerson(1, 3), 0);
        x.die(1);
        Check.is("one of a dead owner breaks", x.mend(1, false), 9);
    }

    private static void mendRefused() {
        Iemotohall x = Halls.flat(2);
        x.utensil(1, 0, -1, 0, 1);
        x.utensil(0, 0, -1, 0, 1);
        Check.index(x, "mend(2, false)", () -> x.mend(2, false));
        Check.index(x, "mend(-1, true)", () -> x.mend(-1, true));
        Check.state(x, "joined, not broken", () -> x.mend(0, true));
        x.mend(0, false);
        Check.state(x, "broken already", () -> x.mend(0, false));
        x.die(1);
        Check.state(x, "joined, of a dead owner", () -> x.mend(0, true));
        x.utensil(0, 0, -1, 0, 9);
        x.utensil(0, 0, -1, 0, 3);
        x.utensil(0, 0, -1, 0, 1);
        x.pass(3);
        Check.is("coins of 0", x.ofPerson(0, 3), 7);
        x.mend(1, false);
        Check.state(x, "joined for 7 coins", () -> x.mend(1, true));
        x.pass(1);
        Check.is("joined for 8 coins", x.mend(1, true), 2);
    }

    private static void quarrel() {
        Iemotohall x = Halls.flat(3);
        Check.is("quarrel(0, 1, true)", x.quarrel(0, 1, true), false);
        Check.is("quarrel(1, 0, true)", x.quarrel(1, 0, true), true);
        Check.is("pairs", x.many(13), 1);
        x.die(2);
        Check.is("quarrel(2, 1, true), dead", x.quarrel(2, 1, true), false);
        Check.is("pairs", x.many(13), 2);
        Check.is("quarrel(1, 2, false)", x.quarrel(1, 2, false), true);
        Check.is("quarrel(1, 2, false) again", x.quarrel(1, 2, false), false);
        Check.is("quarrel(0, 1, false)", x.quarrel(0, 1, false), true);
        Check.is("pairs", x.many(13), 0);
        Check.index(x, "quarrel(3, 3, true)", () -> x.quarrel(3, 3, true));
        Check.index(x, "quarrel(0, 3, true)", () -> x.quarrel(0, 3, true));
        Check.index(x, "quarrel(-1, 0, true)", () -> x.quarrel(-1, 0, true));
        Check.index(x, "quarrel(0, -1, true)", () -> x.quarrel(0, -1, true));
        Check.argument(x, "quarrel(1, 1, true)", () -> x.quarrel(1, 1, true));
        Check.argument(x, "quarrel(2, 2, false), dead", () -> x.quarrel(2, 2, false));
    }

    private static void hold() {
        Iemotohall x = Halls.flat(6);
        x.utensil(0, 0, -1, 1, 6);
        x.utensil(0, 1, -1, 2, 5);
        x.utensil(0, 1, -1, 3, 1);
        Check.is("coins of 0", x.ofPerson(0, 3), 12);
        Check.is("hold(0, {1, 2, 3, 4}) for all the 12 coins", x.hold(0, 0b11110), 11);
        Check.is("coins of 0", x.ofPerson(0, 3), 8);
        Check.is("coins of 1", x.ofPerson(1, 3), 58);
        Check.is("coins of 4", x.ofPerson(4, 3), 58);
        Check.is("coins of 5", x.ofPerson(5, 3), 60);
        Check.is("chosen 0", x.ofUtensil(0, 6), 1);
        Check.is("chosen 1", x.ofUtensil(1, 6), 1);
        Check.is("chosen 2", x.ofUtensil(2, 6), 0);
        Check.is("seen 0", x.ofUtensil(0, 7), 0b11110);
        Check.is("seen 2", x.ofUtensil(2, 7), 0);
        Check.is("held by 0", x.ofPerson(0, 11), 1);
        Check.is("held by 1", x.ofPerson(1, 11), 0);
        Check.is("gatherings", x.many(7), 1);
        x.lend(0, 1);
        Check.is("hold(1, {5})", x.hold(1, 0b100000), 6);
        Check.is("gatherings", x.many(7), 2);
        Check.is("held by 1", x.ofPerson(1, 11), 1);
        Check.is("seen 0", x.ofUtensil(0, 7), 0b111110);
        Check.is("hold(2, {5}) without utensils", x.hold(2, 0b100000), 0);
        Check.is("coins of 2, nothing given", x.ofPerson(2, 3), 58 - 3);
    }

    private static void holdGifts() {
        Iemotohall x = Halls.flat(3);
        x.utensil(1, 0, -1, 0, 9);
        x.utensil(1, 1, -1, 1, 6);
        x.utensil(2, 0, -1, 2, 4);
        x.lend(0, 0);
        x.lend(1, 0);
        Check.is("coins of 1", x.ofPerson(1, 3), 0);
        Check.is("hold(0, {1, 2})", x.hold(0, 6), 15);
        Check.is("coins of 1, that has nothing", x.ofPerson(1, 3), 0);
        Check.is("coins of 2, 3 given", x.ofPerson(2, 3), 44 - 3);
        Check.is("coins of 0", x.ofPerson(0, 3), 60 - 6 + 3);
        x.quarrel(0, 1, true);
        x.quarrel(0, 2, true);
        x.quarrel(1, 2, true);
        Check.is("hold(0, {1, 2}), of less than nothing", x.hold(0, 6), 3 - 18);
        Check.is("coins of 2", x.ofPerson(2, 3), 41);
        Check.is("coins of 0", x.ofPerson(0, 3), 51);
        giftsByWholeFives();
        Iemotohall less = Halls.flat(2);
        for (int r = 9; r >= 6; r--) {
            less.utensil(r >= 8 ? 0 : 1, 9 - r, -1, r, r == 8 ? 6 : r);
        }
        less.lend(2, 0);
        less.lend(3, 0);
        less.pass(1);
        less.utensil(1, 0, -1, 0, 1);
        Check.is("coins of 1", less.ofPerson(1, 3), 5);
        less.utensil(1, 0, -1, 0, 1);
        Check.is("coins of 1", less.ofPerson(1, 3), 1);
        Check.is("hold(0, {1})", less.hold(0, 2), 9 + 6 + 7 + 6);
        Check.is("coins of 1, that had less than 5", less.ofPerson(1, 3), 0);
        Check.is("coins of 0", less.ofPerson(0, 3), 63 - 60 - 3 + 1);
    }

    private static void giftsByWholeFives() {
        int[] ranks = {4, 5, 9};
        int[] gifts = {0, 1, 1};
        for (int i = 0; i < ranks.length; i++) {
            Iemotohall x = Halls.flat(2);
            x.utensil(1, 0, -1, 0, ranks[i]);
            Check.is("hold(1, {0})", x.hold(1, 1), ranks[i]);
            Check.is("coins of 0 for a worth of " + ranks[i], x.ofPerson(0, 3), 60 - gifts[i]);
            Check.is("seen by 0", x.ofUtensil(0, 7), 1);
        }
    }

    private static void holdRefused() {
        Iemotohall x = Halls.flat(7);
        Check.index(x, "hold(7, 1)", () -> x.hold(7, 1));
        Check.index(x, "hold(-1, 0)", () -> x.hold(-1, 0));
        Check.argument(x, "hold(0, 0)", () -> x.hold(0, 0));
        Check.argument(x, "hold(0, {1, 2, 3, 4, 5})", () -> x.hold(0, 0b111110));
        Check.argument(x, "hold(0, {0, 1})", () -> x.hold(0, 3));
        Check.argument(x, "hold(0, {7})", () -> x.hold(0, 128));
        Check.argument(x, "hold(0, {1, 7})", () -> x.hold(0, 130));
        Check.argument(x, "hold(0, -1)", () -> x.hold(0, -1));
        Check.argument(x, "hold(0, the sign's bit)", () -> x.hold(0, 1 << 31));
        x.die(6);
        Check.state(x, "hold(0, {6}), dead", () -> x.hold(0, 64));
        Check.state(x, "hold(0, {1, 6}), dead", () -> x.hold(0, 66));
        Check.state(x, "hold(6, {1}), dead", () -> x.hold(6, 2));
        Check.argument(x, "hold(6, {6}), dead", () -> x.hold(6, 64));
        x.utensil(0, 0, -1, 0, 9);
        x.utensil(0, 0, -1, 0, 4);
        Check.is("coins of 0", x.ofPerson(0, 3), 8);
        Check.state(x, "hold(0, {1, 2, 3}) for 8 coins", () -> x.hold(0, 0b1110));
        Check.is("hold(0, {1, 2}) for 8 coins", x.hold(0, 0b110), 9);
        x.die(0);
        Check.state(x, "hold(1, {0}), dead", () -> x.hold(1, 1));
        Check.state(x, "plan(1, {0}, 0), dead", () -> x.plan(1, 1, 0));
    }

    private static void seenIsForgotten() {
        Iemotohall x = Halls.flat(3);
        x.utensil(0, 0, -1, 0, 9);
        x.pass(5);
        x.hold(0, 2);
        Check.is("seen", x.ofUtensil(0, 7), 2);
        Check.is("worth for 1", x.plan(0, 2, -1), 6);
        Check.is("worth for 2", x.plan(0, 4, -1), 9);
        x.pass(90);
        x.pass(30);
        Check.is("seen 120 days before", x.ofUtensil(0, 7), 2);
        Check.is("worth for 1 and 2", x.plan(0, 6, -1), 6);
        x.die(1);
        Check.is("seen by a dead one", x.ofUtensil(0, 7), 2);
        x.pass(1);
        Check.is("seen 121 days before", x.ofUtensil(0, 7), 0);
        x.hold(0, 4);
        x.pass(90);
        x.hold(0, 4);
        x.pass(90);
        Check.is("seen again", x.ofUtensil(0, 7), 4);
    }

    private static void planSeasons() {
        Iemotohall x = Halls.flat(2);
        for (int season = 0; season < 4; season++) {
            x.pass(90);
            x.utensil(0, 0, season, season, 5 + season);
        }
        Check.is("day", x.many(0), 360);
        for (int round = 0; round < 5; round++) {
            int season = round % 4;
            Check.is("season", x.many(8), season);
            Check.is("utensil of the season " + season, x.plan(0, 2, 0), season);
            Check.is("worth in the season " + season, x.plan(0, 2, -1), 5 + season);
            x.pass(29);
            Check.is("utensil on the last day", x.plan(0, 2, 0), season);
            x.pass(1);
        }
        x.utensil(0, 0, -1, 0, 4);
        Check.is("season", x.many(8), 1);
        x.mend(1, false);
        Check.is("the one for all", x.plan(0, 2, 0), 4);
    }

    private static void planOwnersAndBroken() {
        Iemotohall x = Halls.flat(3);
        Check.is("worth without utensils", x.plan(0, 2, -1), 0);
        Check.is("kind 0 without utensils", x.plan(0, 2, 0), -1);
        x.utensil(0, 2, -1, 0, 3);
        x.utensil(1, 2, -1, 0, 9);
        x.utensil(0, 2, -1, 0, 4);
        Check.is("kind 2 of 0", x.plan(0, 2, 2), 2);
        Check.is("kind 2 of 1", x.plan(1, 1, 2), 1);
        Check.is("kind 2 of 2", x.plan(2, 1, 2), -1);
        x.mend(2, false);
        Check.is("kind 2 of 0, one broken", x.plan(0, 2, 2), 0);
        x.lend(1, 0);
        Check.is("kind 2 of 0, one lent", x.plan(0, 2, 2), 1);
        Check.is("kind 1 of 0", x.plan(0, 2, 1), -1);
        Check.is("worth", x.plan(0, 2, -1), 9);
    }

    private static void planSeenThemesQuarrels() {
        Iemotohall x = Halls.flat(6);
        x.pass(90);
        x.utensil(0, 0, -1, 5, 5);
        x.utensil(0, 1, -1, 5, 6);
        x.utensil(0, 2, -1, 5, 9);
        x.utensil(0, 3, -1, 5, 9);
        Check.is("four of one theme", x.plan(0, 2, -1), 14);
        Check.is("which of kind 0", x.plan(0, 2, 0), -1);
        Check.is("which of kind 1", x.plan(0, 2, 1), -1);
        Check.is("which of kind 2", x.plan(0, 2, 2), 2);
        Check.is("which of kind 3", x.plan(0, 2, 3), 3);
        x.hold(0, 0b00110);
        Check.is("for two that saw two of them", x.plan(0, 6, -1), 6 + 5 - 4);
        Check.is("for one of them, and others", x.plan(0, 0b11010, -1), 6 + 6 - 4);
        x.quarrel(1, 2, true);
        x.quarrel(0, 3, true);
        x.quarrel(4, 5, true);
        Check.is("guests that quarrel", x.plan(0, 6, -1), 7 - 6);
        Check.is("host and a guest that quarrel", x.plan(0, 0b11010, -1), 8 - 6);
        Check.is("all quarrels", x.plan(0, 0b111000, -1), 14 - 12);
        x.quarrel(0, 4, true);
        Check.is("one more", x.plan(0, 0b111000, -1), 14 - 18);
        Iemotohall three = Halls.flat(2);
        three.pass(90);
        three.utensil(0, 0, -1, 5, 9);
        three.utensil(0, 1, -1, 5, 9);
        three.utensil(0, 2, -1, 5, 9);
        Check.is("three of one theme: three pairs", three.plan(0, 2, -1), 27 - 12);
        three.utensil(0, 3, -1, 4, 9);
        three.utensil(0, 2, -1, 4, 9);
        Check.is("two pairs of two themes", three.plan(0, 2, -1), 36 - 8);
    }

    private static void planOfSeveral() {
        Iemotohall x = Halls.flat(2);
        x.pass(90);
        x.utensil(0, 1, -1, 0, 5);
        x.utensil(0, 0, -1, 0, 4);
        x.utensil(0, 0, -1, 0, 4);
        Check.is("worth", x.plan(0, 2, -1), 5);
        Check.is("the smaller of kind 0, before none", x.plan(0, 2, 0), 1);
        Check.is("that of kind 1", x.plan(0, 2, 1), 0);
        x.hold(0, 2);
        Check.is("worth, two seen", x.plan(0, 2, -1), 4);
        Check.is("the other of kind 0", x.plan(0, 2, 0), 2);
        Check.is("none of kind 1", x.plan(0, 2, 1), -1);
        x.hold(0, 2);
        Check.is("worth, all seen", x.plan(0, 2, -1), 2);
        Check.is("none of kind 0", x.plan(0, 2, 0), -1);
        Check.is("that of kind 1", x.plan(0, 2, 1), 0);
        Iemotohall tie = Halls.flat(2);
        tie.utensil(0, 1, -1, 0, 4);
        tie.utensil(0, 0, -1, 0, 4);
        Check.is("worth of one or both", tie.plan(0, 2, -1), 4);
        Check.is("that of kind 0, before none", tie.plan(0, 2, 0), 1);
        Check.is("that of kind 1, before none", tie.plan(0, 2, 1), 0);
        Iemotohall zero = Halls.flat(2);
        zero.utensil(0, 3, -1, 0, 3);
        zero.hold(0, 2);
        Check.is("one of no worth is chosen before none", zero.plan(0, 2, 3), 0);
        zero.mend(0, false);
        Check.is("worth without it", zero.plan(0, 2, -1), 0);
        zero.mend(0, true);
        Check.is("hold(0, {1})", zero.hold(0, 2), 1);
        Check.is("chosen", zero.ofUtensil(0, 6), 2);
    }

    private static void planRefused() {
        Iemotohall x = Halls.flat(7);
        Check.index(x, "plan(7, 1, 0)", () -> x.plan(7, 1, 0));
        Check.index(x, "plan(-1, 0, 4)", () -> x.plan(-1, 0, 4));
        Check.argument(x, "plan(0, 0, 0)", () -> x.plan(0, 0, 0));
        Check.argument(x, "plan(0, {1, 2, 3, 4, 5}, 0)", () -> x.plan(0, 0b111110, 0));
        Check.argument(x, "plan(0, {0, 1}, 0)", () -> x.plan(0, 3, 0));
        Check.argument(x, "plan(0, {1, 7}, 0)", () -> x.plan(0, 130, 0));
        Check.argument(x, "plan(0, the sign's bit, 0)", () -> x.plan(0, 1 << 31, 0));
        Check.argument(x, "plan(0, {1}, 4)", () -> x.plan(0, 2, 4));
        Check.argument(x, "plan(0, {1}, -2)", () -> x.plan(0, 2, -2));
        x.die(6);
        Check.state(x, "plan(6, {1}, 0), dead", () -> x.plan(6, 2, 0));
        Check.state(x, "plan(0, {1, 6}, 0), dead", () -> x.plan(0, 66, 0));
        Check.argument(x, "plan(0, {6}, 4), dead", () -> x.plan(0, 64, 4));
        x.utensil(0, 0, -1, 0, 9);
        x.utensil(0, 0, -1, 0, 6);
        Check.is("coins of 0", x.ofPerson(0, 3), 0);
        long before = x.digest();
        Check.is("plan without coins", x.plan(0, 2, -1), 9);
        Check.is("nothing is changed", x.digest(), before);
    }

    private static void ofUtensilRefused() {
        Iemotohall x = Halls.flat(1);
        x.utensil(0, 0, -1, 0, 1);
        Check.index(x, "ofUtensil(1, 0)", () -> x.ofUtensil(1, 0));
        Check.index(x, "ofUtensil(-1, 8)", () -> x.ofUtensil(-1, 8));
        Check.index(x, "ofUtensil(12, 0)", () -> x.ofUtensil(12, 0));
        Check.index(x, "ofUtensil(the least, 0)", () -> x.ofUtensil(Integer.MIN_VALUE, 0));
        Check.argument(x, "ofUtensil(0, 8)", () -> x.ofUtensil(0, 8));
        Check.argument(x, "ofUtensil(0, -1)", () -> x.ofUtensil(0, -1));
    }
}
