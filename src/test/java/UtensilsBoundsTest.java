/** The bounds of section 5 on utensils and of the promises 14 to 17 and 23, a sentence each. */
public final class UtensilsBoundsTest {
    public static void main(String[] args) {
        Sentences.run(UtensilsBoundsTest.class);
    }

    private static void isUtensil(Iemotohall x, int utensil, int... due) {
        for (int what = 0; what < due.length; what++) {
            Check.is("ofUtensil(" + utensil + ", " + what + ")", x.ofUtensil(utensil, what), due[what]);
        }
    }

    // ---- section 5

    @Says(section = 5, text = "UTENSILS: at most 12, numbered from 0")
    private static void twelveUtensils() {
        Iemotohall x = Halls.flat(2);
        for (int u = 0; u < 12; u++) {
            Check.is("utensil " + u, x.utensil(u % 2, 0, -1, 0, 1), u);
            x.mend(u, false);
        }
        Check.state(x, "the 13th, though all are broken", () -> x.utensil(0, 0, -1, 0, 1));
        Check.is("utensils", x.many(6), 12);
    }

    @Says(section = 5, text = "each of a KIND (0 to 3), a SEASON (0 to 3, or NONE: for all), a THEME (0 to 9), "
        + "a RANK (1 to 9), an OWNER, BROKEN or not")
    private static void theLeastAndTheMostOfEach() {
        Iemotohall x = Halls.flat(2);
        x.utensil(0, 0, -1, 0, 1);
        x.utensil(1, 3, 3, 9, 9);
        x.utensil(0, 1, 0, 1, 2);
        isUtensil(x, 0, 0, -1, 0, 1, 0, 0, 0, 0);
        isUtensil(x, 1, 3, 3, 9, 9, 1, 0, 0, 0);
        isUtensil(x, 2, 1, 0, 1, 2, 0, 0, 0, 0);
    }

    @Says(section = 5, text = "To buy one a living PERSON pays 4 times RANK.")
    private static void fourTimesTheRank() {
        for (int rank = 1; rank <= 9; rank++) {
            int r = rank;
            Iemotohall x = Halls.flat(2);
            Halls.leave(x, 1, 0, 4 * rank - 1);
            Check.state(x, "of the rank " + rank + " for one coin less", () -> x.utensil(1, 0, -1, 0, r));
            x.pass(1);
            int before = x.many(6);
            Check.is("of the rank " + rank + " for all the coins", x.utensil(1, 0, -1, 0, rank), before);
            Check.is("coins then", x.ofPerson(1, 3), 0);
            x.die(1);
            Check.state(x, "by a dead one", () -> x.utensil(1, 0, -1, 0, 1));
        }
    }

    @Says(section = 5, text = "To LEND: it has a living PERSON as OWNER (that can be the same).")
    private static void lentToALivingOne() {
        Iemotohall x = Halls.flat(3);
        x.utensil(1, 0, -1, 0, 1);
        Check.is("lend(0, 1), the same", x.lend(0, 1), 1);
        Check.is("owner", x.ofUtensil(0, 4), 1);
        Check.is("lend(0, 2)", x.lend(0, 2), 1);
        x.die(2);
        Check.state(x, "lend(0, 2), the same, dead", () -> x.lend(0, 2));
        Check.is("lend(0, 0), from a dead one", x.lend(0, 0), 2);
    }

    @Says(section = 5, text = "One that is BROKEN can be JOINED by its OWNER for 8 COINS: RANK is 1 more (9 at most), "
        + "and it is not BROKEN any more.")
    private static void joinedForEightCoins() {
        Iemotohall x = Halls.flat(2);
        x.utensil(0, 0, -1, 0, 8);
        x.utensil(1, 0, -1, 0, 1);
        x.lend(0, 1);
        x.mend(0, false);
        Check.is("rank of 8, joined", x.mend(0, true), 9);
        Check.is("coins of the owner", x.ofPerson(1, 3), 56 - 8);
        Check.is("coins of who bought it", x.ofPerson(0, 3), 28);
        Check.is("broken", x.ofUtensil(0, 5), 0);
        x.mend(0, false);
        Check.is("rank of 9, joined", x.mend(0, true), 9);
        Check.is("coins of the owner, paid all the same", x.ofPerson(1, 3), 40);
        Check.state(x, "joined, not broken", () -> x.mend(0, true));
        x.mend(1, false);
        Check.is("rank of 1, joined", x.mend(1, true), 2);
        Iemotohall y = Halls.flat(2);
        y.utensil(0, 0, -1, 0, 1);
        Halls.leave(y, 1, 0, 7);
        y.lend(0, 1);
        y.mend(0, false);
        Check.state(y, "joined for 7 coins", () -> y.mend(0, true));
        y.pass(1);
        Check.is("joined for 8 coins", y.mend(0, true), 2);
        Check.is("coins then", y.ofPerson(1, 3), 0);
    }

    // ---- promise 14: utensil

    @Says(promise = 14, text = "its SEASON (NONE: for all)")
    private static void utensilForAllSeasons() {
        Iemotohall x = Halls.flat(2);
        x.utensil(0, 0, -1, 0, 1);
        for (int season = 0; season < 4; season++) {
            Check.is("season", x.many(8), season);
            Check.is("the one for all", x.plan(0, 2, 0), 0);
            x.pass(30);
        }
    }

    @Says(promise = 14, text = "Returns its number.")
    private static void utensilAnswersItsNumber() {
        Iemotohall x = Halls.flat(2);
        Check.is("the first", x.utensil(1, 3, 3, 9, 1), 0);
        Check.is("the second", x.utensil(0, 0, -1, 0, 9), 1);
    }

    @Says(promise = 14, text = "there is no such PERSON")
    private static void utensilOfNoSuchPerson() {
        Iemotohall x = Halls.flat(2);
        Check.indexOutside(x, "utensil", 0, 1, p -> x.utensil(p, 0, 0, 0, 1));
    }

    @Says(promise = 14, text = "kind is not 0 to 3")
    private static void utensilOfNoSuchKind() {
        Iemotohall x = Halls.flat(1);
        Check.argumentOutside(x, "kind", 0, 3, k -> x.utensil(0, k, 0, 0, 1));
    }

    @Says(promise = 14, text = "season not NONE to 3")
    private static void utensilOfNoSuchSeason() {
        Iemotohall x = Halls.flat(1);
        Check.argumentOutside(x, "season", -1, 3, s -> x.utensil(0, 0, s, 0, 1));
    }

    @Says(promise = 14, text = "theme not 0 to 9")
    private static void utensilOfNoSuchTheme() {
        Iemotohall x = Halls.flat(1);
        Check.argumentOutside(x, "theme", 0, 9, t -> x.utensil(0, 0, 0, t, 1));
    }

    @Says(promise = 14, text = "or rank not 1 to 9")
    private static void utensilOfNoSuchRank() {
        Iemotohall x = Halls.flat(1);
        Check.argumentOutside(x, "rank", 1, 9, r -> x.utensil(0, 0, 0, 0, r));
    }

    @Says(promise = 14, text = "there are 12, the PERSON is dead, or COINS lack")
    private static void utensilThatCannotBe() {
        Iemotohall x = Halls.flat(3);
        Halls.leave(x, 1, 0, 3);
        Check.state(x, "for 3 coins", () -> x.utensil(1, 0, 0, 0, 1));
        x.die(2);
        Check.state(x, "by a dead one", () -> x.utensil(2, 0, 0, 0, 1));
        for (int u = x.many(6); u < 11; u++) {
            x.utensil(0, 0, 0, 0, 1);
        }
        Check.is("the twelfth", x.utensil(0, 0, 0, 0, 1), 11);
        Check.state(x, "the 13th", () -> x.utensil(0, 0, 0, 0, 1));
    }

    @Says(text = "If several exceptions apply, the one that is named first is thrown.")
    private static void utensilNamesIndexThenArgument() {
        Iemotohall x = Halls.flat(2);
        Check.index(x, "no such person, no such kind", () -> x.utensil(2, 4, 0, 0, 1));
        Check.index(x, "no such person, no such rank", () -> x.utensil(-1, 0, 0, 0, 0));
        x.die(1);
        Check.argument(x, "no such theme, by a dead one", () -> x.utensil(1, 0, 0, 10, 1));
        Check.argument(x, "no such rank, for too few coins", () -> x.utensil(0, 0, 0, 0, 16));
        Check.index(x, "lend of no such utensil, to a dead one", () -> x.lend(0, 1));
        x.utensil(0, 0, 0, 0, 1);
        Check.index(x, "lend to no such person", () -> x.lend(0, 2));
        Check.index(x, "quarrel of no such person with itself", () -> x.quarrel(2, 2, true));
    }

    // ---- promises 15 to 17: lend, mend, quarrel

    @Says(promise = 15, text = "Returns the OWNER before.")
    private static void lendAnswersTheOwnerBefore() {
        Iemotohall x = Halls.flat(3);
        x.utensil(2, 0, 0, 0, 1);
        Check.is("lend(0, 0)", x.lend(0, 0), 2);
        Check.is("lend(0, 0) again", x.lend(0, 0), 0);
        Check.is("lend(0, 1)", x.lend(0, 1), 0);
        Check.is("owner", x.ofUtensil(0, 4), 1);
    }

    @Says(promise = 15, text = "there is no such UTENSIL, or PERSON")
    private static void lendOfNoSuch() {
        Iemotohall x = Halls.flat(2);
        Check.index(x, "lend(0, 0), without any", () -> x.lend(0, 0));
        x.utensil(0, 0, 0, 0, 1);
        Check.indexOutside(x, "lend", 0, 0, u -> x.lend(u, 1));
        Check.indexOutside(x, "lend to", 0, 1, p -> x.lend(0, p));
    }

    @Says(promise = 15, text = "the PERSON is dead")
    private static void lendToADeadOne() {
        Iemotohall x = Halls.flat(3);
        x.utensil(1, 0, 0, 0, 1);
        x.die(1);
        Check.state(x, "lend(0, 1), the owner, dead", () -> x.lend(0, 1));
        x.die(2);
        Check.state(x, "lend(0, 2), dead", () -> x.lend(0, 2));
        Check.is("owner", x.ofUtensil(0, 4), 1);
    }

    @Says(promise = 16, text = "Returns its RANK then.")
    private static void mendAnswersTheRank() {
        Iemotohall x = Halls.flat(1);
        x.utensil(0, 0, 0, 0, 7);
        Check.is("broken", x.mend(0, false), 7);
        Check.is("joined", x.mend(0, true), 8);
        Check.is("broken again", x.mend(0, false), 8);
        Check.is("rank", x.ofUtensil(0, 3), 8);
    }

    @Says(promise = 16, text = "there is no such UTENSIL")
    private static void mendOfNoSuch() {
        Iemotohall x = Halls.flat(1);
        Check.index(x, "mend(0, true), without any", () -> x.mend(0, true));
        x.utensil(0, 0, 0, 0, 1);
        Check.indexOutside(x, "mend to break", 0, 0, u -> x.mend(u, false));
        x.mend(0, false);
        Check.indexOutside(x, "mend to join", 0, 0, u -> x.mend(u, true));
    }

    @Says(promise = 16, text = "(to break) it is BROKEN already")
    private static void brokenAlready() {
        Iemotohall x = Halls.flat(2);
        x.utensil(1, 0, 0, 0, 1);
        x.die(1);
        Check.is("one of a dead owner breaks", x.mend(0, false), 1);
        Check.state(x, "broken already", () -> x.mend(0, false));
        Check.is("broken", x.ofUtensil(0, 5), 1);
    }

    @Says(promise = 16, text = "(to be JOINED) it is not, its OWNER is dead, or COINS lack")
    private static void joinThatCannotBe() {
        Iemotohall x = Halls.flat(3);
        x.utensil(1, 0, 0, 0, 1);
        Check.state(x, "not broken", () -> x.mend(0, true));
        x.mend(0, false);
        Halls.leave(x, 2, 0, 7);
        x.lend(0, 2);
        Check.state(x, "for 7 coins, though who bought it has more", () -> x.mend(0, true));
        x.lend(0, 1);
        x.die(1);
        Check.state(x, "of a dead owner with coins", () -> x.mend(0, true));
        x.lend(0, 0);
        Check.is("of another owner", x.mend(0, true), 2);
    }

    @Says(promise = 17, text = "whether from now on")
    private static void quarrelsBeginAndEnd() {
        Iemotohall x = Halls.flat(3);
        x.quarrel(2, 1, true);
        Check.is("pairs", x.many(13), 1);
        Check.is("worth for both", x.plan(0, 6, -1), -6);
        x.quarrel(1, 2, true);
        Check.is("pairs, the same once more", x.many(13), 1);
        x.quarrel(1, 2, false);
        Check.is("pairs, ended by the other", x.many(13), 0);
        Check.is("worth for both", x.plan(0, 6, -1), 0);
        x.quarrel(1, 2, false);
        Check.is("pairs, ended once more", x.many(13), 0);
    }

    @Says(promise = 17, text = "Returns whether they did.")
    private static void quarrelAnswersWhetherTheyDid() {
        Iemotohall x = Halls.flat(3);
        Check.is("quarrel(0, 1, false)", x.quarrel(0, 1, false), false);
        Check.is("quarrel(0, 1, true)", x.quarrel(0, 1, true), false);
        Check.is("quarrel(1, 0, true)", x.quarrel(1, 0, true), true);
        Check.is("quarrel(1, 2, true)", x.quarrel(1, 2, true), false);
        Check.is("quarrel(0, 1, false)", x.quarrel(0, 1, false), true);
        Check.is("quarrel(1, 0, true)", x.quarrel(1, 0, true), false);
    }

    @Says(promise = 17, text = "there is no such PERSON, of both")
    private static void quarrelOfNoSuchPerson() {
        Iemotohall x = Halls.flat(2);
        Check.indexOutside(x, "one", 0, 1, p -> x.quarrel(p, 1, true));
        Check.indexOutside(x, "other", 0, 1, p -> x.quarrel(1, p, true));
    }

    @Says(promise = 17, text = "both are the same")
    private static void quarrelWithOneself() {
        Iemotohall x = Halls.flat(2);
        Check.argument(x, "quarrel(0, 0, true)", () -> x.quarrel(0, 0, true));
        Check.argument(x, "quarrel(1, 1, false)", () -> x.quarrel(1, 1, false));
    }

    // ---- promise 23: ofUtensil

    @Says(promise = 23, text = "0 its KIND, 1 SEASON (NONE), 2 THEME, 3 RANK, 4 OWNER, 5 1 if BROKEN, otherwise 0, "
        + "6 how often it was chosen")
    private static void ofUtensilTellsItself() {
        Iemotohall x = Halls.flat(2);
        x.utensil(0, 2, -1, 9, 8);
        x.utensil(1, 3, 0, 1, 5);
        x.hold(0, 2);
        x.hold(0, 2);
        x.lend(0, 1);
        x.mend(0, false);
        isUtensil(x, 0, 2, -1, 9, 8, 1, 1, 2, 2);
        isUtensil(x, 1, 3, 0, 1, 5, 1, 0, 0, 0);
        x.mend(0, true);
        isUtensil(x, 0, 2, -1, 9, 9, 1, 0, 2, 2);
    }

    @Says(promise = 23, text = "7 the set of PEOPLE who have SEEN it (in the last 120 DAYS)")
    private static void ofUtensilTellsWhoSawIt() {
        Iemotohall x = Halls.flat(12);
        x.utensil(0, 0, -1, 0, 9);
        Check.is("nobody at first", x.ofUtensil(0, 7), 0);
        x.hold(0, 1 << 11);
        x.pass(60);
        x.hold(0, 0b110);
        x.pass(60);
        Check.is("120 days after the first", x.ofUtensil(0, 7), 2048 + 6);
        x.pass(1);
        Check.is("121 days after the first", x.ofUtensil(0, 7), 6);
        x.pass(59);
        Check.is("120 days after the second", x.ofUtensil(0, 7), 6);
        x.pass(1);
        Check.is("121 days after the second", x.ofUtensil(0, 7), 0);
    }

    @Says(promise = 23, text = "there is no such UTENSIL")
    private static void ofNoSuchUtensil() {
        Iemotohall x = Halls.flat(1);
        Check.index(x, "ofUtensil(0, 0), without any", () -> x.ofUtensil(0, 0));
        x.utensil(0, 0, 0, 0, 1);
        Check.indexOutside(x, "ofUtensil", 0, 0, u -> x.ofUtensil(u, 0));
        Check.index(x, "ofUtensil(1, 8)", () -> x.ofUtensil(1, 8));
        for (int u = 1; u < 12; u++) {
            x.utensil(0, 0, 0, 0, 1);
        }
        Check.indexOutside(x, "ofUtensil", 0, 11, u -> x.ofUtensil(u, 0));
    }

    @Says(promise = 23, text = "what is not 0 to 7")
    private static void ofUtensilWhat() {
        Iemotohall x = Halls.flat(1);
        x.utensil(0, 0, 0, 0, 1);
        Check.argumentOutside(x, "what", 0, 7, what -> x.ofUtensil(0, what));
    }
}
