/** The bounds of section 5 on gatherings and of the promises 18 and 26, a sentence each: hold, plan. */
public final class GatheringsBoundsTest {
    public static void main(String[] args) {
        Sentences.run(GatheringsBoundsTest.class);
    }

    /** What the host 0 would do with these guests: the worth, and the utensil of each kind. */
    private static void isPlan(Iemotohall x, int guests, int worth, int... utensils) {
        Check.is("worth", x.plan(0, guests, -1), worth);
        for (int kind = 0; kind < utensils.length; kind++) {
            Check.is("utensil of the kind " + kind, x.plan(0, guests, kind), utensils[kind]);
        }
    }

    /** Fourteen days' worth of coins for the first one, and so many people. */
    private static Iemotohall rich(int people) {
        Iemotohall x = Halls.flat(people);
        x.pass(90);
        x.pass(30);
        return x;
    }

    // ---- section 5: the plan

    @Says(section = 5, text = "The SEASON is DAY / 30 modulo 4.")
    private static void seasons() {
        Iemotohall x = Halls.flat(2);
        for (int season = 0; season < 4; season++) {
            x.utensil(0, 0, season, 0, 1 + season);
        }
        for (int round = 0; round < 9; round++) {
            int season = round % 4;
            Check.is("season of the day " + x.many(0), x.many(8), season);
            isPlan(x, 2, 1 + season, season);
            x.pass(29);
            Check.is("season of the day " + x.many(0), x.many(8), season);
            isPlan(x, 2, 1 + season, season);
            x.pass(1);
        }
    }

    @Says(section = 5, text = "A PLAN of a living HOST and a set of other living guests (1 to 4 of them)")
    private static void oneToFourGuests() {
        Iemotohall x = Halls.flat(7);
        Check.argument(x, "no guest", () -> x.plan(0, 0, -1));
        Check.is("one guest", x.plan(0, 0b10, -1), 0);
        Check.is("four guests", x.plan(0, 0b11110, -1), 0);
        Check.argument(x, "five guests", () -> x.plan(0, 0b111110, -1));
        Check.argument(x, "the host as a guest", () -> x.plan(1, 0b10, -1));
        Check.is("four guests", x.hold(6, 0b1111), 0);
        Check.argument(x, "five guests", () -> x.hold(6, 0b11111));
        Check.argument(x, "the host as the fourth guest", () -> x.hold(3, 0b1111));
        x.die(5);
        Check.state(x, "a dead guest among others", () -> x.plan(0, 0b100110, -1));
        Check.state(x, "a dead host", () -> x.plan(5, 0b10, -1));
    }

    @Says(section = 5, text = "for each KIND a UTENSIL of that KIND whose OWNER is the HOST, that is not BROKEN, "
        + "and of the SEASON or for all, or none.")
    private static void whichMayBeChosen() {
        Iemotohall x = rich(2);
        isPlan(x, 2, 0, -1, -1, -1, -1);
        x.utensil(0, 0, 1, 0, 9);
        isPlan(x, 2, 0, -1, -1, -1, -1);
        x.utensil(1, 0, -1, 0, 9);
        isPlan(x, 2, 0, -1, -1, -1, -1);
        x.utensil(0, 3, 0, 0, 5);
        isPlan(x, 2, 5, -1, -1, -1, 2);
        x.utensil(0, 1, -1, 1, 4);
        isPlan(x, 2, 9, -1, 3, -1, 2);
        x.mend(2, false);
        isPlan(x, 2, 4, -1, 3, -1, -1);
        x.mend(2, true);
        isPlan(x, 2, 10, -1, 3, -1, 2);
        x.lend(1, 0);
        isPlan(x, 2, 4 + 9 + 6 - 4, 1, 3, -1, 2);
        x.lend(2, 1);
        isPlan(x, 2, 13, 1, 3, -1, -1);
        x.pass(30);
        isPlan(x, 2, 13, 0, 3, -1, -1);
    }

    @Says(section = 5, text = "of each chosen one RANK, less 3 for each guest that has SEEN it "
        + "(in the last 120 DAYS: from DAY less 120 on)")
    private static void whatGuestsHaveSeen() {
        Iemotohall x = rich(6);
        x.utensil(0, 0, -1, 0, 9);
        isPlan(x, 0b11110, 9, 0);
        x.hold(0, 0b00010);
        isPlan(x, 0b00010, 6, 0);
        isPlan(x, 0b11100, 9, 0);
        x.hold(0, 0b01100);
        isPlan(x, 0b01110, 0, 0);
        isPlan(x, 0b11110, 0, 0);
        isPlan(x, 0b110100, 6, 0);
        x.pass(30);
        x.pass(89);
        isPlan(x, 0b01110, 0, 0);
        x.pass(1);
        isPlan(x, 0b01110, 0, 0);
        isPlan(x, 0b01100, 3, 0);
        x.pass(1);
        isPlan(x, 0b01110, 9, 0);
    }

    @Says(section = 5, text = "and 4 less for each pair of them with the same THEME")
    private static void pairsOfOneTheme() {
        int[] worths = {9, 14, 15, 14 + 1};
        Iemotohall x = rich(2);
        for (int kind = 0; kind < 4; kind++) {
            x.utensil(0, kind, -1, 9, 9);
            isPlan(x, 2, worths[kind]);
        }
        isPlan(x, 2, 15, 0, 1, 2, -1);
        Iemotohall y = rich(2);
        for (int kind = 0; kind < 4; kind++) {
            y.utensil(0, kind, -1, kind / 2, 9);
        }
        isPlan(y, 2, 36 - 8, 0, 1, 2, 3);
        Iemotohall z = rich(2);
        z.utensil(0, 0, -1, 0, 9);
        z.utensil(0, 3, -1, 0, 5);
        isPlan(z, 2, 10, 0, -1, -1, 1);
        z.utensil(0, 1, -1, 8, 1);
        isPlan(z, 2, 11, 0, 2, -1, 1);
    }

    @Says(section = 5, text = "6 less for each pair (of the HOST and the guests, any two of them all) that QUARREL.")
    private static void pairsThatQuarrel() {
        Iemotohall x = Halls.flat(6);
        for (int one = 0; one < 5; one++) {
            for (int other = 0; other < one; other++) {
                x.quarrel(one, other, true);
            }
        }
        Check.is("host and one", x.plan(0, 0b10, -1), -6);
        Check.is("host and two", x.plan(0, 0b110, -1), -18);
        Check.is("host and four", x.plan(0, 0b11110, -1), -60);
        Check.is("four guests of a host that does not", x.plan(5, 0b01111, -1), -36);
        Check.is("one guest of a host that does not", x.plan(5, 0b00001, -1), 0);
        Check.is("host and one that does not", x.plan(0, 0b100000, -1), 0);
        x.quarrel(0, 1, false);
        Check.is("host and two, one pair less", x.plan(0, 0b110, -1), -12);
        x.utensil(0, 0, -1, 0, 9);
        isPlan(x, 0b110, 9 - 12, 0, -1, -1, -1);
    }

    @Says(section = 5, text = "the PLAN of the greatest WORTH")
    private static void theGreatestWorth() {
        Iemotohall x = rich(3);
        x.utensil(0, 0, -1, 5, 3);
        x.utensil(0, 0, -1, 5, 9);
        x.utensil(0, 1, -1, 5, 4);
        x.utensil(0, 1, -1, 6, 1);
        // The two best ones share a theme: 9 + 4 - 4 is less than 9 + 1.
        isPlan(x, 2, 10, 1, 3, -1, -1);
        Check.is("hold(0, {1})", x.hold(0, 2), 10);
        Check.is("chosen 1", x.ofUtensil(1, 6), 1);
        Check.is("chosen 2", x.ofUtensil(2, 6), 0);
        Check.is("chosen 3", x.ofUtensil(3, 6), 1);
        isPlan(x, 2, 6, 1, 2, -1, -1);
        Iemotohall y = rich(2);
        y.utensil(0, 2, -1, 0, 2);
        Check.is("hold(0, {1})", y.hold(0, 2), 2);
        isPlan(y, 2, 0, -1, -1, -1, -1);
    }

    @Says(section = 5, text = "(of several the one with the smaller UTENSIL of the KIND 0, none counts as the greatest "
        + "number there; then of 1, and so on)")
    private static void ofSeveralPlansTheSmaller() {
        for (int kind = 0; kind < 4; kind++) {
            Iemotohall x = rich(2);
            x.utensil(0, kind, -1, 0, 3);
            x.utensil(0, kind, -1, 1, 3);
            Check.is("the smaller of the kind " + kind, x.plan(0, 2, kind), 0);
            x.hold(0, 2);
            Check.is("the one not seen of the kind " + kind, x.plan(0, 2, kind), 1);
            x.mend(1, false);
            Check.is("one of no worth before none", x.plan(0, 2, kind), 0);
            Check.is("its worth", x.plan(0, 2, -1), 0);
        }
        Iemotohall y = rich(2);
        for (int kind = 3; kind >= 0; kind--) {
            y.utensil(0, kind, -1, 0, 4);
        }
        isPlan(y, 2, 4, 3, 2, -1, -1);
        y.mend(3, false);
        isPlan(y, 2, 4, -1, 2, 1, -1);
        y.mend(2, false);
        isPlan(y, 2, 4, -1, -1, 1, 0);
        Iemotohall z = rich(2);
        z.utensil(0, 1, -1, 1, 5);
        z.utensil(0, 0, -1, 1, 9);
        z.utensil(0, 1, -1, 2, 1);
        z.utensil(0, 0, -1, 2, 9);
        isPlan(z, 2, 13 + 1, 3, 0, -1, -1);
        z.lend(2, 1);
        z.utensil(0, 1, -1, 2, 5);
        isPlan(z, 2, 14, 1, 4, -1, -1);
    }

    // ---- section 5: to hold

    @Says(section = 5, text = "the HOST pays 3 for each guest")
    private static void threeForEachGuest() {
        for (int guests = 1; guests <= 4; guests++) {
            int set = (1 << guests) - 1;
            Iemotohall x = Halls.flat(6);
            Halls.leave(x, 5, 4, 3 * guests - 1);
            for (int u = x.many(6) - 1; u >= 0; u--) {
                x.lend(u, 4);
            }
            Check.state(x, "one coin less for " + guests, () -> x.hold(5, set));
            x.pass(1);
            Check.is("all the coins for " + guests, x.hold(5, set), 0);
            Check.is("coins then", x.ofPerson(5, 3), 0);
            Check.is("coins of a guest", x.ofPerson(1, 3), 61);
        }
    }

    @Says(section = 5, text = "each guest has SEEN the chosen ones on this DAY")
    private static void guestsHaveSeenTheChosenOnes() {
        Iemotohall x = rich(6);
        x.utensil(0, 0, -1, 0, 9);
        x.utensil(0, 0, -1, 0, 8);
        x.utensil(0, 3, -1, 1, 7);
        x.hold(0, 0b101010);
        Check.is("who saw the chosen one", x.ofUtensil(0, 7), 0b101010);
        Check.is("who saw the other one", x.ofUtensil(1, 7), 0);
        Check.is("who saw the one of the kind 3", x.ofUtensil(2, 7), 0b101010);
        x.pass(90);
        x.lend(0, 1);
        x.hold(1, 0b001000);
        x.pass(31);
        Check.is("who saw it again", x.ofUtensil(0, 7), 0b001000);
        Iemotohall first = Halls.flat(12);
        first.utensil(11, 0, -1, 0, 9);
        Check.is("hold(11, {0, 10})", first.hold(11, 1 + 1024), 9);
        Check.is("who saw it, the first and the eleventh", first.ofUtensil(0, 7), 1 + 1024);
        Check.is("worth for the first one", first.plan(11, 1, -1), 6);
    }

    @Says(section = 5, text = "each guest gives the HOST 1 of COINS for each whole 5 of WORTH "
        + "(nothing, if that is below 5)")
    private static void aCoinForEachFive() {
        for (int rank = 1; rank <= 9; rank++) {
            int gift = rank < 5 ? 0 : 1;
            Iemotohall x = Halls.flat(4);
            x.utensil(0, 0, -1, 0, rank);
            Check.is("worth", x.hold(0, 0b0110), rank);
            Check.is("coins of a guest", x.ofPerson(1, 3), 60 - gift);
            Check.is("coins of the host", x.ofPerson(0, 3), 60 - 4 * rank - 6 + 2 * gift);
            Check.is("coins of no guest", x.ofPerson(3, 3), 60);
        }
        Iemotohall ends = Halls.flat(12);
        ends.utensil(5, 0, -1, 0, 9);
        Check.is("worth", ends.hold(5, 1 + 2048), 9);
        Check.is("coins of the first one", ends.ofPerson(0, 3), 59);
        Check.is("coins of the twelfth", ends.ofPerson(11, 3), 59);
        Iemotohall most = rich(2);
        for (int kind = 0; kind < 4; kind++) {
            most.utensil(0, kind, -1, kind, 9);
        }
        int host = most.ofPerson(0, 3);
        Check.is("worth, the greatest of all", most.hold(0, 2), 36);
        Check.is("coins of the guest", most.ofPerson(1, 3), 60 + 120 - 7);
        Check.is("coins of the host", most.ofPerson(0, 3), host - 3 + 7);
        Iemotohall less = Halls.flat(2);
        less.quarrel(0, 1, true);
        Check.is("worth below nothing", less.hold(0, 2), -6);
        Check.is("coins of the guest", less.ofPerson(1, 3), 60);
        Check.is("coins of the host", less.ofPerson(0, 3), 57);
    }

    @Says(section = 5, text = "or what it has, if that is less.")
    private static void giftsOfWhatIsThere() {
        for (int coins = 0; coins <= 8; coins++) {
            Iemotohall x = rich(3);
            for (int kind = 0; kind < 4; kind++) {
                x.utensil(0, kind, -1, kind, 9);
            }
            Halls.leave(x, 1, 2, coins);
            int host = x.ofPerson(0, 3);
            int gift = Math.min(coins, 7);
            Check.is("worth", x.hold(0, 2), 36);
            Check.is("coins of the guest that had " + coins, x.ofPerson(1, 3), coins - gift);
            Check.is("coins of the host", x.ofPerson(0, 3), host - 3 + gift);
        }
    }

    // ---- promise 18: hold

    @Says(promise = 18, text = "Returns its WORTH.")
    private static void holdAnswersTheWorth() {
        Iemotohall x = Halls.flat(3);
        Check.is("without utensils", x.hold(0, 2), 0);
        x.utensil(0, 0, -1, 0, 9);
        Check.is("with one of the rank 9", x.hold(0, 2), 9);
        Check.is("with one that was seen", x.hold(0, 2), 6);
        x.quarrel(1, 2, true);
        Check.is("with two that quarrel, one of whom has seen it", x.hold(0, 6), 0);
        Check.is("gatherings", x.many(7), 4);
        Check.is("those of 0", x.ofPerson(0, 11), 4);
    }

    @Says(promise = 18, text = "there is no such HOST")
    private static void holdOfNoSuchHost() {
        Iemotohall x = Halls.flat(2);
        Check.indexOutside(x, "hold", 0, 1, h -> x.hold(h, 1));
    }

    @Says(promise = 18, text = "guests is no set of 1 to 4 PEOPLE, or the HOST is one of them")
    private static void holdWithNoSuchGuests() {
        Iemotohall x = Halls.flat(7);
        int[] wrong = {0, 0b111110, 0b1111110, 0b11, 0b1, 1 << 7, 1 << 12, 1 << 30, 1 << 31, (1 << 31) + 2, 130, -1};
        for (int guests : wrong) {
            Check.argument(x, "hold(0, " + guests + ")", () -> x.hold(0, guests));
        }
        Check.argument(x, "hold(6, {6})", () -> x.hold(6, 1 << 6));
        Check.is("hold(0, {6})", x.hold(0, 1 << 6), 0);
        Iemotohall full = Halls.flat(12);
        Check.argument(full, "hold(0, {12})", () -> full.hold(0, 1 << 12));
        Check.is("hold(0, {8, 9, 10, 11})", full.hold(0, 0b111100000000), 0);
    }

    @Says(promise = 18, text = "the HOST, or a guest, is dead, or COINS lack")
    private static void holdThatCannotBe() {
        Iemotohall x = Halls.flat(6);
        x.die(5);
        Check.state(x, "a dead host", () -> x.hold(5, 2));
        Check.state(x, "a dead guest", () -> x.hold(0, 1 << 5));
        Check.state(x, "a dead guest among living ones", () -> x.hold(0, 0b101110));
        Halls.leave(x, 1, 2, 11);
        Check.state(x, "11 coins for four guests", () -> x.hold(1, 0b011101 | 0b010000));
        for (int u = x.many(6) - 1; u >= 0; u--) {
            x.lend(u, 2);
        }
        Check.state(x, "11 coins for four guests", () -> x.hold(1, 0b011101));
        Check.is("11 coins for three guests", x.hold(1, 0b011100), 0);
        Check.is("coins then", x.ofPerson(1, 3), 2);
        Check.state(x, "2 coins for one guest", () -> x.hold(1, 1));
    }

    @Says(text = "If several exceptions apply, the one that is named first is thrown.")
    private static void holdAndPlanNameIndexThenArgument() {
        Iemotohall x = Halls.flat(3);
        x.die(2);
        Check.index(x, "hold by nobody, without guests", () -> x.hold(3, 0));
        Check.argument(x, "hold by a dead one, without guests", () -> x.hold(2, 0));
        Check.argument(x, "hold by a dead one, with itself", () -> x.hold(2, 4));
        Check.argument(x, "hold with a dead one, and nobody", () -> x.hold(0, 12));
        Check.index(x, "plan by nobody, without guests", () -> x.plan(-1, 0, 0));
        Check.index(x, "plan by nobody of no such kind", () -> x.plan(3, 2, 4));
        Check.argument(x, "plan by a dead one of no such kind", () -> x.plan(2, 2, 4));
        Check.argument(x, "plan with a dead one of no such kind", () -> x.plan(0, 4, -2));
    }

    // ---- promise 26: plan

    @Says(promise = 26, text = "NONE: the WORTH of the PLAN of a gathering now; 0 to 3: which UTENSIL of that KIND it "
        + "would have (NONE)")
    private static void planAnswersWorthOrUtensil() {
        Iemotohall x = Halls.flat(2);
        isPlan(x, 2, 0, -1, -1, -1, -1);
        x.utensil(0, 3, -1, 0, 9);
        x.utensil(0, 0, -1, 1, 6);
        Check.is("coins of the host", x.ofPerson(0, 3), 0);
        long before = x.digest();
        isPlan(x, 2, 15, 1, -1, -1, 0);
        Check.is("nothing is changed, and no coin is needed", x.digest(), before);
    }

    @Says(promise = 26, text = "there is no such HOST")
    private static void planOfNoSuchHost() {
        Iemotohall x = Halls.flat(2);
        Check.indexOutside(x, "plan", 0, 1, h -> x.plan(h, 1, 0));
    }

    @Says(promise = 26, text = "guests is no set of 1 to 4 PEOPLE, or the HOST is one of them")
    private static void planWithNoSuchGuests() {
        Iemotohall x = Halls.flat(7);
        int[] wrong = {0, 0b111110, 0b11, 0b1, 1 << 7, 1 << 12, 1 << 30, 1 << 31, (1 << 31) + 2, 130, -1};
        for (int guests : wrong) {
            Check.argument(x, "plan(0, " + guests + ", -1)", () -> x.plan(0, guests, -1));
        }
        Check.argument(x, "plan(6, {6}, 0)", () -> x.plan(6, 1 << 6, 0));
        Check.is("plan(0, {6}, 0)", x.plan(0, 1 << 6, 0), -1);
    }

    @Says(promise = 26, text = "or what is not NONE to 3")
    private static void planWhat() {
        Iemotohall x = Halls.flat(2);
        Check.argumentOutside(x, "what", -1, 3, what -> x.plan(0, 2, what));
    }

    @Says(promise = 26, text = "the HOST, or a guest, is dead")
    private static void planOfDeadOnes() {
        Iemotohall x = Halls.flat(4);
        x.die(3);
        Check.state(x, "a dead host", () -> x.plan(3, 2, 0));
        Check.state(x, "a dead guest", () -> x.plan(0, 8, 0));
        Check.state(x, "a dead guest among living ones", () -> x.plan(0, 0b1110, -1));
        x.die(0);
        Check.state(x, "a dead guest of the smallest number", () -> x.plan(1, 0b0101, -1));
        Check.is("living ones", x.plan(1, 0b0100, -1), 0);
    }
}
