/** The bounds of section 2 and of the promises 3, 4, 20 and 27, a sentence each: give, revoke, giver, wouldFall. */
public final class StepsBoundsTest {
    public static void main(String[] args) {
        Sentences.run(StepsBoundsTest.class);
    }

    /** A chain of four: 1 is dead, 2 holds all steps, 3 those up to that one, and coins for another. */
    private static Iemotohall brokenLine(int step) {
        Iemotohall x = Halls.chain(4);
        Halls.raise(x, 1, 9);
        Halls.raise(x, 2, 9);
        Halls.raise(x, 3, step);
        x.pass(90);
        x.die(1);
        return x;
    }

    /** A chain of twelve, where each has all the steps from the one above. */
    private static Iemotohall fullChain() {
        Iemotohall x = Halls.chain(12);
        for (int i = 0; i < 3; i++) {
            x.pass(90);
        }
        for (int p = 1; p < 12; p++) {
            for (int step = 1; step <= 9; step++) {
                Check.is("give(" + p + ")", x.give(p), step);
            }
        }
        return x;
    }

    // ---- section 2: to give

    @Says(section = 2, text = "To GIVE a living PERSON the next STEP s (their STEP and 1, at most 9)")
    private static void oneStepAfterAnother() {
        Iemotohall x = Halls.flat(2);
        x.pass(90);
        x.pass(90);
        for (int step = 1; step <= 9; step++) {
            Check.is("give(1)", x.give(1), step);
            Check.is("step then", x.ofPerson(1, 2), step);
        }
        Check.state(x, "a tenth", () -> x.give(1));
    }

    @Says(section = 2, text = "the TEACHER GIVES it: has to be alive, and to hold s or more")
    private static void theTeacherHoldsIt() {
        Iemotohall x = Halls.chain(3);
        Check.is("by one that holds none", x.give(2), -2);
        x.give(1);
        Check.is("by one that holds just that", x.give(2), 1);
        Check.is("by one that holds one less", x.give(2), -2);
        x.give(1);
        x.die(1);
        Check.is("by a dead one that holds it", x.give(2), -2);
        Check.is("step of 2", x.ofPerson(2, 2), 1);
    }

    @Says(section = 2, text = "from s of 7 on the LINE of the TEACHER has to be UNBROKEN")
    private static void theLineFromSevenOn() {
        Iemotohall x = brokenLine(5);
        Check.is("the step 6 in a broken line", x.give(3), 6);
        x.pass(90);
        Check.is("the step 7 in a broken line", x.give(3), -3);
        for (int step = 8; step <= 9; step++) {
            Check.is("the step " + step + " in a broken line", brokenLine(step - 1).give(3), -3);
        }
        x.adopt(2, 0, false);
        Check.is("the step 7 in an unbroken line", x.give(3), 7);
    }

    @Says(section = 2, text = "the PERSON has a FEE of 5 times s")
    private static void feesOfEachStep() {
        for (int step = 1; step <= 9; step++) {
            Iemotohall x = Halls.flat(2);
            Halls.raise(x, 1, step - 1);
            x.pass(45);
            Halls.leave(x, 1, 0, 5 * step - 1);
            Check.is("the step " + step + " for one coin less", x.give(1), -4);
            x.pass(1);
            Check.is("the step " + step + " for all the coins", x.give(1), step);
            Check.is("coins then", x.ofPerson(1, 3), 0);
        }
    }

    @Says(section = 2, text = "It is kept who GAVE it, and on which DAY.")
    private static void giversAreKept() {
        Iemotohall x = Halls.flat(3);
        x.give(2);
        x.give(1);
        x.pass(90);
        x.adopt(1, 2, false);
        x.give(2);
        x.give(1);
        x.die(2);
        Check.is("who gave the first", x.giver(1, 1, false), 0);
        Check.is("on which day, the first of all", x.giver(1, 1, true), 0);
        Check.is("who gave the second, dead now", x.giver(1, 2, false), 2);
        Check.is("on which day", x.giver(1, 2, true), 90);
    }

    @Says(section = 2, text = "the TEACHER takes half of it (rounded up), the next one above (TEACHER of the TEACHER) "
        + "half of what is left (rounded up), and so on")
    private static void halvesAreRoundedUp() {
        Iemotohall x = Halls.chain(5);
        for (int p = 1; p <= 4; p++) {
            Check.is("give(" + p + ")", x.give(p), 1);
        }
        // Of 5: 0+5; 3+2; 3+1+1; 3+1+1+0, from below.
        int[] coins = {60 + 5 + 2 + 1, 55 + 3 + 1 + 1, 55 + 3 + 1, 55 + 3, 55};
        for (int p = 0; p < coins.length; p++) {
            Check.is("coins of " + p, x.ofPerson(p, 3), coins[p]);
        }
        Check.is("coins of all", x.many(9), 300);
        Check.is("fees lost", x.many(12), 0);
    }

    @Says(section = 2, text = "a dead one takes nothing (and it goes on up)")
    private static void deadOnesTakeNothing() {
        Iemotohall x = Halls.chain(5);
        for (int p = 1; p <= 3; p++) {
            x.give(p);
        }
        int top = x.ofPerson(0, 3);
        int next = x.ofPerson(1, 3);
        int dead = x.ofPerson(2, 3);
        int teacher = x.ofPerson(3, 3);
        x.die(2);
        Check.is("give(4)", x.give(4), 1);
        Check.is("coins of the teacher", x.ofPerson(3, 3), teacher + 3);
        Check.is("coins of the dead one above", x.ofPerson(2, 3), dead);
        Check.is("coins of the next one: half of 2", x.ofPerson(1, 3), next + 1);
        Check.is("coins of the last one", x.ofPerson(0, 3), top + 1);
    }

    @Says(section = 2, text = "who has no TEACHER takes all that is left")
    private static void theTopTakesTheRest() {
        Iemotohall x = Halls.chain(3);
        x.give(1);
        Check.is("coins of the one without a teacher, by 5", x.ofPerson(0, 3), 65);
        x.give(1);
        Check.is("coins of the one without a teacher, by 10", x.ofPerson(0, 3), 75);
        x.give(2);
        Check.is("coins of the one without a teacher, by 2 of 5", x.ofPerson(0, 3), 77);
    }

    @Says(section = 2, text = "(a dead one: it is lost)")
    private static void feesAreLostAtADeadTop() {
        Iemotohall x = Halls.chain(4);
        x.person(0, 0);
        x.give(1);
        x.give(2);
        x.die(1);
        Check.is("next head, the child", x.die(0), 4);
        int coins = x.many(9);
        Check.is("give(3) below the dead 1 and the dead 0", x.give(3), 1);
        Check.is("fees lost, 2 of 5", x.many(12), 2);
        Check.is("coins of all", x.many(9), coins - 2);
        Check.is("coins of the dead 0", x.ofPerson(0, 3), 60 + 5 + 2);
    }

    @Says(section = 2, text = "With the STEP 5 one gets a NAME: 12 times the number of the one who GAVE it, "
        + "and the own number")
    private static void namesFromFiveOn() {
        Iemotohall x = Halls.chain(12);
        x.pass(90);
        for (int p = 1; p < 12; p++) {
            for (int step = 1; step <= 5; step++) {
                x.give(p);
            }
            Check.is("name of " + p, x.ofPerson(p, 6), 12 * (p - 1) + p);
        }
        Check.is("the greatest name", x.ofPerson(11, 6), 131);
        x.adopt(11, 0, false);
        x.die(10);
        Check.is("name by a dead one that is the teacher no more", x.ofPerson(11, 6), 131);
    }

    @Says(section = 2, text = "without the STEP 5, or with one by NONE, there is none (NONE).")
    private static void noNameBeforeFive() {
        Iemotohall x = Halls.flat(2);
        Check.is("name with the step 0", x.ofPerson(1, 6), -1);
        Halls.raise(x, 1, 4);
        Check.is("name with the step 4", x.ofPerson(1, 6), -1);
        Halls.raise(x, 1, 5);
        Check.is("name with the step 5", x.ofPerson(1, 6), 1);
        x.revoke(1, 5);
        Check.is("name with the step 5 fallen", x.ofPerson(1, 6), -1);
        Check.is("name with a step by none", x.ofPerson(0, 6), -1);
    }

    // ---- section 2: to revoke

    @Says(section = 2, text = "To REVOKE a STEP s that a PERSON holds (dead ones, too; but none by NONE)")
    private static void deadOnesToo() {
        Iemotohall x = Halls.chain(3);
        x.give(1);
        x.give(2);
        x.give(1);
        x.die(1);
        Check.is("revoke(1, 2) of a dead one", x.revoke(1, 2), 1);
        Check.is("step of the dead one", x.ofPerson(1, 2), 1);
        x.die(2);
        Check.is("revoke(1, 1) of a dead one with a dead pupil", x.revoke(1, 1), 2);
        Check.is("step of the dead pupil", x.ofPerson(2, 2), 0);
        Check.state(x, "revoke(0, 1) by none", () -> x.revoke(0, 1));
        Check.state(x, "revoke(0, 9) by none", () -> x.revoke(0, 9));
    }

    @Says(section = 2, text = "that and all above it FALL")
    private static void allAboveFalls() {
        Iemotohall x = Halls.flat(2);
        Halls.raise(x, 1, 9);
        Check.is("revoke(1, 9)", x.revoke(1, 9), 1);
        Check.is("step", x.ofPerson(1, 2), 8);
        Check.is("revoke(1, 4)", x.revoke(1, 4), 5);
        Check.is("step", x.ofPerson(1, 2), 3);
        Check.is("revoke(1, 1)", x.revoke(1, 1), 3);
        Check.is("step", x.ofPerson(1, 2), 0);
    }

    @Says(section = 2, text = "that STEP FALLS of each who holds it as GIVEN by that PERSON")
    private static void whatWasGivenFalls() {
        Iemotohall x = Halls.flat(3);
        x.person(1, -1);
        x.person(1, -1);
        Halls.raise(x, 1, 3);
        Halls.raise(x, 3, 2);
        x.adopt(4, 0, false);
        Halls.raise(x, 4, 2);
        x.adopt(4, 1, false);
        x.adopt(3, 2, false);
        Check.is("revoke(1, 3), given to nobody", x.revoke(1, 3), 1);
        Check.is("revoke(1, 2), given to one that has another teacher now", x.revoke(1, 2), 2);
        Check.is("step of that one", x.ofPerson(3, 2), 1);
        Check.is("step of a pupil that had it from another one", x.ofPerson(4, 2), 2);
        Check.is("step of the giver's giver", x.ofPerson(0, 2), 9);
    }

    @Says(section = 2, text = "with all above it, and so on.")
    private static void andSoOn() {
        Iemotohall x = fullChain();
        Check.is("revoke(1, 9)", x.revoke(1, 9), 11);
        Check.is("revoke(6, 5)", x.revoke(6, 5), 4 * 6);
        Check.is("revoke(1, 1)", x.revoke(1, 1), 8 * 11 - 4 * 6);
        Check.is("steps that fell", x.many(11), 99);
        Check.is("step of the last one", x.ofPerson(11, 2), 0);
        Iemotohall y = Halls.flat(2);
        y.person(1, -1);
        Halls.raise(y, 1, 1);
        Halls.raise(y, 2, 1);
        y.adopt(2, 0, false);
        Halls.raise(y, 2, 3);
        Check.is("revoke(1, 1): what is above falls, by whomever it was given", y.revoke(1, 1), 4);
    }

    // ---- promise 3: give

    @Says(promise = 3, text = "otherwise the first of these (nothing is done)")
    private static void theFirstOfTheThree() {
        Iemotohall x = brokenLine(6);
        Halls.leave(x, 3, 2, 34);
        x.revoke(2, 7);
        long before = x.digest();
        Check.is("teacher, line and fee lack", x.give(3), -2);
        Check.is("nothing is done", x.digest(), before);
        Iemotohall y = brokenLine(6);
        Halls.leave(y, 3, 2, 34);
        before = y.digest();
        Check.is("line and fee lack", y.give(3), -3);
        Check.is("nothing is done", y.digest(), before);
        y.adopt(2, 0, false);
        before = y.digest();
        Check.is("the fee lacks", y.give(3), -4);
        Check.is("nothing is done", y.digest(), before);
        Iemotohall z = Halls.chain(3);
        Halls.leave(z, 2, 0, 0);
        Check.is("teacher and fee lack", z.give(2), -2);
    }

    @Says(promise = 3, text = "Returns the STEP then")
    private static void giveAnswersTheStep() {
        Iemotohall x = Halls.flat(3);
        Check.is("give(1)", x.give(1), 1);
        Check.is("give(2)", x.give(2), 1);
        Check.is("give(1)", x.give(1), 2);
    }

    @Says(promise = 3, text = "-2, if the TEACHER cannot GIVE it")
    private static void minusTwo() {
        Iemotohall x = Halls.chain(3);
        Check.is("give(2) by one without it", x.give(2), -2);
        Halls.raise(x, 1, 1);
        x.die(1);
        Check.is("give(2) by a dead one", x.give(2), -2);
    }

    @Says(promise = 3, text = "-3, if the LINE would have to be UNBROKEN")
    private static void minusThree() {
        Iemotohall x = brokenLine(6);
        Check.is("give(3)", x.give(3), -3);
        Check.is("give(3) again", x.give(3), -3);
        Check.is("step", x.ofPerson(3, 2), 6);
    }

    @Says(promise = 3, text = "-4, if the FEE lacks")
    private static void minusFour() {
        Iemotohall x = Halls.flat(2);
        Halls.leave(x, 1, 0, 4);
        Check.is("give(1) for 4 coins", x.give(1), -4);
        x.pass(1);
        Check.is("give(1) for 5 coins", x.give(1), 1);
        Check.is("give(1) for none", x.give(1), -4);
    }

    @Says(promise = 3, text = "there is no such PERSON")
    private static void giveToNoSuchPerson() {
        Iemotohall x = Halls.flat(2);
        Check.indexOutside(x, "give", 0, 1, x::give);
        Iemotohall empty = new Iemotohall();
        Check.index(empty, "give(0) in an empty hall", () -> empty.give(0));
    }

    @Says(promise = 3, text = "the PERSON is dead")
    private static void giveToADeadOne() {
        Iemotohall x = Halls.chain(3);
        x.give(1);
        x.die(2);
        Check.state(x, "give(2), dead", () -> x.give(2));
        x.die(1);
        Check.state(x, "give(2), dead, and so is the teacher", () -> x.give(2));
    }

    @Says(promise = 3, text = "has the STEP 9")
    private static void giveAboveNine() {
        Iemotohall x = Halls.flat(2);
        x.pass(90);
        Halls.raise(x, 1, 8);
        x.pass(90);
        Check.is("the ninth", x.give(1), 9);
        Check.state(x, "the tenth", () -> x.give(1));
        Halls.leave(x, 1, 0, 0);
        Check.state(x, "the tenth for no coins", () -> x.give(1));
    }

    @Says(promise = 3, text = "or no TEACHER")
    private static void giveWithoutATeacher() {
        Iemotohall x = Halls.flat(3);
        Check.state(x, "give(0), the first one", () -> x.give(0));
        Halls.raise(x, 1, 8);
        x.part(1);
        x.pass(90);
        Check.state(x, "give(1), a head that parted", () -> x.give(1));
        x.die(0);
        Check.state(x, "give(2), a head by death", () -> x.give(2));
    }

    // ---- promise 4: revoke

    @Says(promise = 4, text = "Returns how many STEPS FALL, of all.")
    private static void revokeAnswersAllThatFell() {
        Iemotohall x = fullChain();
        Check.is("revoke(1, 1)", x.revoke(1, 1), 99);
        Check.is("steps that fell", x.many(11), 99);
        Check.is("steps given stay", x.many(10), 99);
        x.give(1);
        Check.is("revoke(1, 1) again", x.revoke(1, 1), 1);
        Check.is("steps that fell", x.many(11), 100);
    }

    @Says(promise = 4, text = "there is no such PERSON")
    private static void revokeOfNoSuchPerson() {
        Iemotohall x = Halls.flat(2);
        Check.indexOutside(x, "revoke", 0, 1, p -> x.revoke(p, 1));
    }

    @Says(promise = 4, text = "step is not 1 to 9")
    private static void revokeOfNoSuchStep() {
        Iemotohall x = Halls.flat(2);
        Halls.raise(x, 1, 9);
        Check.argumentOutside(x, "step", 1, 9, s -> x.revoke(1, s));
        Check.is("revoke(1, 9)", x.revoke(1, 9), 1);
        Check.is("revoke(1, 1)", x.revoke(1, 1), 8);
    }

    @Says(promise = 4, text = "the PERSON does not hold it")
    private static void revokeOfWhatIsNotHeld() {
        Iemotohall x = Halls.flat(3);
        Check.state(x, "revoke(1, 1) with the step 0", () -> x.revoke(1, 1));
        Halls.raise(x, 1, 4);
        Check.state(x, "revoke(1, 5) with the step 4", () -> x.revoke(1, 5));
        Check.state(x, "revoke(1, 9) with the step 4", () -> x.revoke(1, 9));
        x.revoke(1, 3);
        Check.state(x, "revoke(1, 3), fallen", () -> x.revoke(1, 3));
        Check.is("revoke(1, 2)", x.revoke(1, 2), 1);
    }

    @Says(promise = 4, text = "or it was GIVEN by NONE")
    private static void revokeOfWhatNoneGave() {
        Iemotohall x = Halls.flat(2);
        for (int step = 1; step <= 9; step++) {
            int s = step;
            Check.state(x, "revoke(0, " + s + ")", () -> x.revoke(0, s));
        }
        x.die(0);
        Check.state(x, "revoke(0, 9), dead", () -> x.revoke(0, 9));
    }

    @Says(text = "If several exceptions apply, the one that is named first is thrown.")
    private static void revokeNamesIndexThenArgument() {
        Iemotohall x = Halls.flat(2);
        Check.index(x, "revoke(2, 0)", () -> x.revoke(2, 0));
        Check.index(x, "revoke(-1, 10)", () -> x.revoke(-1, 10));
        Check.argument(x, "revoke(0, 0), by none", () -> x.revoke(0, 0));
        Check.argument(x, "revoke(1, 10), not held", () -> x.revoke(1, 10));
    }

    // ---- promises 20 and 27: giver, wouldFall

    @Says(promise = 20, text = "whether on which DAY it was GIVEN, otherwise by whom")
    private static void giverAnswersDayOrGiver() {
        Iemotohall x = Halls.flat(2);
        x.person(1, -1);
        x.pass(90);
        x.give(1);
        x.pass(1);
        x.give(2);
        Check.is("by whom", x.giver(2, 1, false), 1);
        Check.is("on which day", x.giver(2, 1, true), 91);
        Check.is("by 0", x.giver(1, 1, false), 0);
    }

    @Says(promise = 20, text = "(NONE, if it is not held, or was GIVEN by NONE)")
    private static void giverOfNone() {
        Iemotohall x = Halls.flat(2);
        x.pass(5);
        Halls.raise(x, 1, 3);
        Check.is("by whom, one above", x.giver(1, 4, false), -1);
        Check.is("on which day, one above", x.giver(1, 4, true), -1);
        Check.is("on which day, far above", x.giver(1, 9, true), -1);
        x.revoke(1, 2);
        Check.is("by whom, fallen", x.giver(1, 2, false), -1);
        Check.is("on which day, fallen", x.giver(1, 3, true), -1);
        Check.is("by whom, held still", x.giver(1, 1, false), 0);
        Check.is("by whom, of the first one", x.giver(0, 9, false), -1);
        Check.is("on which day, of the first one", x.giver(0, 1, true), -1);
    }

    @Says(promise = 20, text = "there is no such PERSON")
    private static void giverOfNoSuchPerson() {
        Iemotohall x = Halls.flat(2);
        Check.indexOutside(x, "giver", 0, 1, p -> x.giver(p, 1, false));
        Check.index(x, "giver of a step that is none", () -> x.giver(2, 0, true));
    }

    @Says(promise = 20, text = "step is not 1 to 9")
    private static void giverOfNoSuchStep() {
        Iemotohall x = Halls.flat(2);
        Check.argumentOutside(x, "step by whom", 1, 9, s -> x.giver(0, s, false));
        Check.argumentOutside(x, "step on which day", 1, 9, s -> x.giver(1, s, true));
    }

    @Says(promise = 27, text = "if it was REVOKED (whoever GAVE it)")
    private static void wouldFallWhoeverGaveIt() {
        Iemotohall x = fullChain();
        long before = x.digest();
        Check.is("wouldFall(0, 1), by none", x.wouldFall(0, 1), 9 + 99);
        Check.is("wouldFall(0, 9), by none", x.wouldFall(0, 9), 1 + 11);
        Check.is("wouldFall(1, 1)", x.wouldFall(1, 1), 99);
        Check.is("wouldFall(11, 9)", x.wouldFall(11, 9), 1);
        Check.is("nothing is changed", x.digest(), before);
        Check.is("revoke(1, 1)", x.revoke(1, 1), 99);
    }

    @Says(promise = 27, text = "there is no such PERSON")
    private static void wouldFallOfNoSuchPerson() {
        Iemotohall x = Halls.flat(2);
        Check.indexOutside(x, "wouldFall", 0, 1, p -> x.wouldFall(p, 1));
        Check.index(x, "wouldFall of a step that is none", () -> x.wouldFall(2, 0));
    }

    @Says(promise = 27, text = "step is not 1 to 9")
    private static void wouldFallOfNoSuchStep() {
        Iemotohall x = Halls.flat(2);
        Check.argumentOutside(x, "step", 1, 9, s -> x.wouldFall(0, s));
        Check.argument(x, "the step 10, not held", () -> x.wouldFall(1, 10));
    }

    @Says(promise = 27, text = "it is not held")
    private static void wouldFallOfWhatIsNotHeld() {
        Iemotohall x = Halls.flat(2);
        Check.state(x, "wouldFall(1, 1) with the step 0", () -> x.wouldFall(1, 1));
        Halls.raise(x, 1, 2);
        Check.state(x, "wouldFall(1, 3) with the step 2", () -> x.wouldFall(1, 3));
        Check.is("wouldFall(1, 2)", x.wouldFall(1, 2), 1);
    }
}
