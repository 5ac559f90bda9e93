/** Promises 3, 4, 20 and 27: give, revoke, giver, wouldFall. */
public final class StepsTest {
    public static void main(String[] args) {
        give();
        giveSharesTheFee();
        giveLosesTheFee();
        giveNeedsTheTeacher();
        giveNeedsTheLine();
        giveNeedsTheFee();
        giveRefused();
        revoke();
        revokeGoesByWhoGave();
        revokeOfDeadOnes();
        revokeRefused();
        giver();
        wouldFall();
        wouldFallRefused();
        Check.end("StepsTest");
    }

    private static void give() {
        Iemotohall x = Halls.flat(2);
        x.pass(90);
        x.pass(90);
        for (int step = 1; step <= 9; step++) {
            Check.is("give(1) the step " + step, x.give(1), step);
            Check.is("step of 1", x.ofPerson(1, 2), step);
        }
        Check.is("coins of 1", x.ofPerson(1, 3), 60 + 180 - 225);
        Check.is("coins of 0", x.ofPerson(0, 3), 60 + 180 * 3 + 225);
        Check.is("steps given", x.many(10), 9);
        Check.is("fees lost", x.many(12), 0);
    }

    private static void giveSharesTheFee() {
        Iemotohall x = Halls.chain(4);
        x.give(1);
        x.give(2);
        x.give(3);
        int[] coins = {68, 59, 58, 55};
        for (int p = 0; p < coins.length; p++) {
            Check.is("coins of " + p, x.ofPerson(p, 3), coins[p]);
        }
        x.give(1);
        x.give(2);
        x.die(1);
        Check.is("give(3) with a dead one above", x.give(3), 2);
        Check.is("coins of 0", x.ofPerson(0, 3), 68 + 10 + 5 + 5);
        Check.is("coins of the dead 1", x.ofPerson(1, 3), 59 - 10 + 5);
        Check.is("coins of 2", x.ofPerson(2, 3), 58 - 10 + 5);
        Check.is("coins of 3", x.ofPerson(3, 3), 55 - 10);
        Check.is("coins of all", x.many(9), 240);
    }

    private static void giveLosesTheFee() {
        Iemotohall x = Halls.chain(4);
        x.person(0, -1);
        x.give(1);
        x.give(2);
        x.die(1);
        Check.is("die(0)", x.die(0), 2);
        Check.is("teacher of the head", x.ofPerson(2, 0), -1);
        Iemotohall y = Halls.chain(4);
        y.person(0, 0);
        y.give(1);
        y.give(2);
        y.die(1);
        Check.is("die(0)", y.die(0), 4);
        Check.is("give(3) with dead ones above", y.give(3), 1);
        Check.is("coins of 2", y.ofPerson(2, 3), 55 + 3);
        Check.is("coins of the dead 1", y.ofPerson(1, 3), 55 + 3);
        Check.is("coins of the dead 0", y.ofPerson(0, 3), 60 + 5 + 2);
        Check.is("fees lost", y.many(12), 2);
        y.give(3);
        Check.is("fees lost, nothing given", y.many(12), 2);
        y.person(2, -1);
        Check.is("give(5) with dead ones above", y.give(5), 1);
        Check.is("fees lost, two times", y.many(12), 4);
    }

    private static void giveNeedsTheTeacher() {
        Iemotohall x = Halls.chain(3);
        Check.is("give(2) by one of the step 0", x.give(2), -2);
        x.give(1);
        Check.is("give(2) by one of the step 1", x.give(2), 1);
        Check.is("give(2) by one of the step 1 again", x.give(2), -2);
        x.give(1);
        x.die(1);
        Check.is("give(2) by a dead one", x.give(2), -2);
        Check.is("steps given", x.many(10), 3);
        Check.is("coins of 2", x.ofPerson(2, 3), 55);
    }

    private static void giveNeedsTheLine() {
        Iemotohall x = Halls.chain(4);
        Halls.raise(x, 1, 8);
        Halls.raise(x, 2, 8);
        Halls.raise(x, 3, 5);
        x.die(1);
        Halls.raise(x, 3, 6);
        long coins = x.ofPerson(3, 3);
        Check.is("give(3) the step 7 in a broken line", x.give(3), -3);
        Check.is("coins of 3", x.ofPerson(3, 3), coins);
        for (int u = 0; u < 12 && x.ofPerson(3, 3) >= 35; u++) {
            x.utensil(3, 0, -1, 0, 1 + Math.min(8, x.ofPerson(3, 3) / 4 - 1));
        }
        Check.is("coins of 3 lack", x.ofPerson(3, 3) < 35, true);
        Check.is("give(3), no line and no coins", x.give(3), -3);
        x.revoke(2, 7);
        Check.is("give(3), no teacher and no line", x.give(3), -2);
        x.adopt(2, 0, false);
        Halls.raise(x, 2, 7);
        Check.is("give(3), no coins alone", x.give(3), -4);
        x.pass(90);
        Check.is("give(3) in a line that stands again", x.give(3), 7);
        Iemotohall high = Halls.chain(4);
        Halls.raise(high, 1, 9);
        Halls.raise(high, 2, 9);
        Halls.raise(high, 3, 7);
        high.die(1);
        Check.is("give(3) the step 8 in a broken line", high.give(3), -3);
        high.adopt(2, 0, false);
        Halls.raise(high, 3, 8);
        high.person(0, -1);
        high.adopt(2, 4, false);
        high.die(4);
        Check.is("give(3) the step 9 in a broken line", high.give(3), -3);
    }

    private static void giveNeedsTheFee() {
        Iemotohall x = Halls.flat(2);
        x.pass(1);
        x.utensil(1, 0, -1, 0, 9);
        x.utensil(1, 0, -1, 0, 5);
        Check.is("give(1) for all its 5 coins", x.give(1), 1);
        Check.is("coins of 1", x.ofPerson(1, 3), 0);
        x.pass(9);
        Check.is("give(1) with 9 coins", x.give(1), -4);
        Check.is("step of 1", x.ofPerson(1, 2), 1);
        Check.is("coins of 1", x.ofPerson(1, 3), 9);
        Check.is("coins of 0", x.ofPerson(0, 3), 60 + 10 * 3 + 5);
        x.pass(1);
        Check.is("give(1) with 10 coins", x.give(1), 2);
        Check.is("steps given", x.many(10), 2);
    }

    private static void giveRefused() {
        Iemotohall x = Halls.flat(4);
        Check.index(x, "give(4)", () -> x.give(4));
        Check.index(x, "give(-1)", () -> x.give(-1));
        Check.state(x, "give(0), the first one", () -> x.give(0));
        Halls.raise(x, 1, 8);
        Halls.raise(x, 2, 9);
        x.pass(90);
        Check.state(x, "give(2) above 9", () -> x.give(2));
        x.part(1);
        Check.state(x, "give(1) without a teacher", () -> x.give(1));
        x.die(3);
        Check.state(x, "give(3), dead", () -> x.give(3));
    }

    private static void revoke() {
        Iemotohall x = Halls.chain(4);
        x.pass(60);
        Halls.raise(x, 1, 4);
        Halls.raise(x, 2, 3);
        Halls.raise(x, 3, 2);
        Check.is("revoke(1, 2)", x.revoke(1, 2), 6);
        int[] steps = {9, 1, 1, 1};
        for (int p = 0; p < steps.length; p++) {
            Check.is("step of " + p, x.ofPerson(p, 2), steps[p]);
        }
        Check.is("steps that fell", x.many(11), 6);
        Check.is("revoke(3, 1)", x.revoke(3, 1), 1);
        Check.is("steps that fell", x.many(11), 7);
        Check.is("steps given stay", x.many(10), 9);
        Iemotohall deep = Halls.chain(12);
        for (int p = 1; p < 12; p++) {
            deep.give(p);
        }
        Check.is("revoke(1, 1) down a chain of 12", deep.revoke(1, 1), 11);
        Check.is("step of 11", deep.ofPerson(11, 2), 0);
    }

    private static void revokeGoesByWhoGave() {
        Iemotohall x = Halls.flat(3);
        x.person(1, -1);
        Halls.raise(x, 1, 3);
        Halls.raise(x, 3, 1);
        x.adopt(3, 0, false);
        Halls.raise(x, 3, 2);
        x.adopt(3, 1, false);
        Halls.raise(x, 3, 3);
        Check.is("wouldFall(1, 3)", x.wouldFall(1, 3), 2);
        Check.is("wouldFall(1, 2)", x.wouldFall(1, 2), 3);
        Check.is("wouldFall(1, 1)", x.wouldFall(1, 1), 6);
        Check.is("revoke(1, 2): the 2 of 3 by 0 stays", x.revoke(1, 2), 3);
        Check.is("step of 3", x.ofPerson(3, 2), 2);
        x.adopt(3, 2, false);
        Check.is("revoke(1, 1): all above falls, too, by whomever", x.revoke(1, 1), 3);
        Check.is("step of 3", x.ofPerson(3, 2), 0);
        Check.is("step of 2", x.ofPerson(2, 2), 0);
        x.adopt(3, 0, false);
        x.give(3);
        x.give(1);
        Check.is("given anew by 0: revoke(1, 1)", x.revoke(1, 1), 1);
        Check.is("step of 3", x.ofPerson(3, 2), 1);
    }

    private static void revokeOfDeadOnes() {
        Iemotohall x = Halls.chain(4);
        Halls.raise(x, 1, 2);
        Halls.raise(x, 2, 2);
        Halls.raise(x, 3, 1);
        x.die(2);
        x.die(1);
        Check.is("revoke(1, 1) of a dead one", x.revoke(1, 1), 5);
        Check.is("step of the dead 2", x.ofPerson(2, 2), 0);
        Check.is("step of 3", x.ofPerson(3, 2), 0);
    }

    private static void revokeRefused() {
        Iemotohall x = Halls.flat(2);
        Halls.raise(x, 1, 2);
        Check.index(x, "revoke(2, 1)", () -> x.revoke(2, 1));
        Check.index(x, "revoke(-1, 0)", () -> x.revoke(-1, 0));
        Check.argument(x, "revoke(1, 0)", () -> x.revoke(1, 0));
        Check.argument(x, "revoke(1, 10)", () -> x.revoke(1, 10));
        Check.state(x, "revoke(1, 3), not held", () -> x.revoke(1, 3));
        Check.state(x, "revoke(0, 1), by none", () -> x.revoke(0, 1));
        Check.state(x, "revoke(0, 9), by none", () -> x.revoke(0, 9));
        x.revoke(1, 2);
        Check.state(x, "revoke(1, 2) again", () -> x.revoke(1, 2));
    }

    private static void giver() {
        Iemotohall x = Halls.flat(3);
        x.person(1, -1);
        x.give(1);
        x.pass(7);
        x.give(1);
        x.give(3);
        Check.is("giver(1, 1, false)", x.giver(1, 1, false), 0);
        Check.is("giver(1, 1, true)", x.giver(1, 1, true), 0);
        Check.is("giver(1, 2, true)", x.giver(1, 2, true), 7);
        Check.is("giver(3, 1, false)", x.giver(3, 1, false), 1);
        Check.is("giver(1, 3, false), not held", x.giver(1, 3, false), -1);
        Check.is("giver(1, 3, true), not held", x.giver(1, 3, true), -1);
        for (int step = 1; step <= 9; step++) {
            Check.is("giver(0, " + step + ", false)", x.giver(0, step, false), -1);
            Check.is("giver(0, " + step + ", true)", x.giver(0, step, true), -1);
        }
        x.revoke(1, 1);
        Check.is("giver(1, 1, false), fallen", x.giver(1, 1, false), -1);
        Check.is("giver(3, 1, true), fallen", x.giver(3, 1, true), -1);
        x.adopt(1, 2, false);
        x.give(2);
        x.pass(1);
        x.give(1);
        Check.is("giver(1, 1, false), given anew", x.giver(1, 1, false), 2);
        Check.is("giver(1, 1, true), given anew", x.giver(1, 1, true), 8);
        Check.index(x, "giver(4, 1, true)", () -> x.giver(4, 1, true));
        Check.index(x, "giver(-1, 0, true)", () -> x.giver(-1, 0, true));
        Check.argument(x, "giver(1, 0, true)", () -> x.giver(1, 0, true));
        Check.argument(x, "giver(1, 10, false)", () -> x.giver(1, 10, false));
    }

    private static void wouldFall() {
        Iemotohall x = Halls.chain(3);
        Halls.raise(x, 1, 3);
        Halls.raise(x, 2, 2);
        long before = x.digest();
        Check.is("wouldFall(1, 3)", x.wouldFall(1, 3), 1);
        Check.is("wouldFall(1, 2)", x.wouldFall(1, 2), 3);
        Check.is("wouldFall(1, 1)", x.wouldFall(1, 1), 5);
        Check.is("wouldFall(2, 1)", x.wouldFall(2, 1), 2);
        Check.is("wouldFall(0, 9), by none", x.wouldFall(0, 9), 1);
        Check.is("wouldFall(0, 3), by none", x.wouldFall(0, 3), 7 + 1);
        Check.is("wouldFall(0, 1), by none", x.wouldFall(0, 1), 9 + 5);
        Check.is("nothing fell", x.digest(), before);
        Check.is("nothing fell ever", x.many(11), 0);
    }

    private static void wouldFallRefused() {
        Iemotohall x = Halls.flat(2);
        x.give(1);
        Check.index(x, "wouldFall(2, 1)", () -> x.wouldFall(2, 1));
        Check.index(x, "wouldFall(-1, 0)", () -> x.wouldFall(-1, 0));
        Check.argument(x, "wouldFall(1, 0)", () -> x.wouldFall(1, 0));
        Check.argument(x, "wouldFall(1, 10)", () -> x.wouldFall(1, 10));
        Check.state(x, "wouldFall(1, 2)", () -> x.wouldFall(1, 2));
    }
}
