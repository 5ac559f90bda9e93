/** The bounds of section 1 and of the promises 1 and 2, a sentence each; and those of the whole document. */
public final class PeopleBoundsTest {
    public static void main(String[] args) {
        Sentences.run(PeopleBoundsTest.class);
    }

    // ---- the whole document

    @Says(text = "An object is used for at most 512 calls after it has been made")
    private static void the512thCallAnswers() {
        Iemotohall x = new Iemotohall();
        for (int call = 1; call < 512; call++) {
            Check.is("call " + call, x.pass(90), 90 * call);
        }
        Check.is("call 512", x.many(0), 90 * 511);
    }

    @Says(text = "All numbers are whole; what is divided is rounded down.")
    private static void divisionsRoundDown() {
        Iemotohall x = Halls.flat(2);
        x.utensil(0, 0, -1, 0, 9);
        Check.is("worth", x.hold(0, 2), 9);
        Check.is("coins of the guest, 9 / 5 given", x.ofPerson(1, 3), 59);
        x.pass(59);
        Check.is("season of the day 59", x.many(8), 1);
    }

    @Says(text = "NONE is -1.")
    private static void noneIsMinusOne() {
        Iemotohall x = Halls.flat(1);
        Check.is("teacher", x.ofPerson(0, 0), -1);
        Check.is("heir", x.ofHouse(0, 1), -1);
        Check.is("key", x.ofSecret(x.secret(0, 0, -1), 1), -1);
        Check.is("season", x.ofUtensil(x.utensil(0, 0, -1, 0, 1), 1), -1);
        Check.is("giver", x.giver(0, 1, false), -1);
    }

    @Says(text = "A set is the sum of 2^k for the number k of each.")
    private static void setsAreSumsOfPowers() {
        Iemotohall x = Halls.flat(12);
        for (int s = 0; s < 8; s++) {
            x.secret(s == 0 || s == 7 ? 11 : 0, 0, -1);
        }
        x.utensil(0, 0, -1, 0, 1);
        Check.is("what 11 read", x.ofPerson(11, 9), 1 + 128);
        x.hold(0, 2048 + 2);
        Check.is("who saw", x.ofUtensil(0, 7), 2048 + 2);
        Check.is("unbroken lines", x.ofHouse(0, 3), 4095);
    }

    @Says(text = "If several exceptions apply, the one that is named first is thrown.")
    private static void personNamesTheIndexFirst() {
        Iemotohall x = Halls.flat(12);
        x.die(11);
        Check.index(x, "no such teacher, and there were 12", () -> x.person(12, -1));
        Check.index(x, "no such kin, and there were 12", () -> x.person(0, 12));
        Check.index(x, "no such kin, and a dead teacher", () -> x.person(11, 12));
    }

    // ---- section 1

    @Says(section = 1, text = "at most 12 ever, numbered from 0")
    private static void twelvePeopleEver() {
        Iemotohall x = new Iemotohall();
        for (int p = 0; p < 12; p++) {
            Check.is("person " + p, x.person(0, -1), p);
            if (p > 0) {
                x.die(p);
            }
        }
        Check.state(x, "the 13th, though eleven are dead", () -> x.person(0, -1));
        Check.is("people", x.many(1), 12);
        Check.is("those that live", x.many(2), 1);
    }

    @Says(section = 1, text = "PEOPLE: at most 12 ever")
    private static void theTwelfthIsLikeTheOthers() {
        Iemotohall x = Halls.flat(12);
        Check.is("give(11)", x.give(11), 1);
        Check.isDouble("mean of 9, ten of 0, and 1", x.meanStep(0), 10.0 / 12.0);
        Check.is("living ones", x.ofHouse(0, 2), 12);
        Check.is("living ones of all", x.many(2), 12);
        Check.is("coins of all", x.many(9), 720);
        Check.is("wouldFall(11, 1)", x.wouldFall(11, 1), 1);
        Check.is("secret(11, 1, -1)", x.secret(11, 1, -1), 0);
        Check.is("readers", x.ofSecret(0, 4), 1);
        Check.is("those that may read yet", x.ofSecret(0, 6), 1);
        Check.is("pass(1)", x.pass(1), 1);
        Check.is("coins of the twelfth", x.ofPerson(11, 3), 56);
        Check.is("quarrel(11, 0)", x.quarrel(11, 0, true), false);
        Check.is("pairs", x.many(13), 1);
        Check.is("wouldLose(11)", x.wouldLose(11), 1);
        Check.is("revoke(11, 1)", x.revoke(11, 1), 1);
        Check.is("heir(0, 11)", x.heir(0, 11), -1);
        Check.is("die(0)", x.die(0), 11);
        Check.is("pupils of the twelfth", x.ofPerson(11, 8), 10);
        Check.is("die(11)", x.die(11), 1);
        Check.is("those that are lost", x.many(5), 1);
    }

    @Says(section = 1, text = "each with a TEACHER, a KIN (whose child it is)")
    private static void everyoneHasTeacherAndKin() {
        Iemotohall x = Halls.flat(2);
        Check.is("person(1, 0)", x.person(1, 0), 2);
        Check.is("teacher", x.ofPerson(2, 0), 1);
        Check.is("kin", x.ofPerson(2, 1), 0);
        Check.is("person(2, 2)", x.person(2, 2), 3);
        Check.is("teacher", x.ofPerson(3, 0), 2);
        Check.is("kin, the same", x.ofPerson(3, 1), 2);
        x.die(1);
        Check.is("person(0, 1) of a dead kin", x.person(0, 1), 4);
        Check.is("kin that is dead", x.ofPerson(4, 1), 1);
    }

    @Says(section = 1, text = "a STEP (0 to 9; 0 at first)")
    private static void stepsAreNoughtToNine() {
        Iemotohall x = Halls.flat(2);
        Check.is("step at first", x.ofPerson(1, 2), 0);
        Halls.raise(x, 1, 9);
        Check.state(x, "a tenth step", () -> x.give(1));
        Check.is("step", x.ofPerson(1, 2), 9);
        x.revoke(1, 1);
        Check.is("step, all fallen", x.ofPerson(1, 2), 0);
    }

    @Says(section = 1, text = "COINS (60 at first")
    private static void sixtyCoinsAtFirst() {
        Iemotohall x = Halls.flat(2);
        x.pass(1);
        x.person(1, -1);
        Check.is("coins of one that came later", x.ofPerson(2, 3), 60);
        Check.is("coins of all", x.many(9), 63 + 61 + 60);
    }

    @Says(section = 1, text = "they cannot be below 0")
    private static void nobodyPaysBelowNought() {
        Iemotohall x = Halls.flat(3);
        x.secret(1, 0, -1);
        x.utensil(2, 0, -1, 0, 1);
        x.lend(0, 1);
        x.mend(0, false);
        Halls.leave(x, 1, 0, 0);
        Check.is("give for no coins", x.give(1), -4);
        Check.state(x, "copy for no coins", () -> x.copy(1, 0));
        Check.state(x, "utensil for no coins", () -> x.utensil(1, 0, -1, 0, 1));
        Check.state(x, "mend for no coins", () -> x.mend(0, true));
        Check.state(x, "hold for no coins", () -> x.hold(1, 1));
        Iemotohall y = Halls.flat(2);
        y.utensil(0, 0, -1, 0, 9);
        Halls.leave(y, 1, 0, 0);
        Check.is("a gathering whose guest has no coins", y.hold(0, 2), 9);
        Check.is("coins of that guest", y.ofPerson(1, 3), 0);
    }

    @Says(section = 1, text = "alive (at first) or dead")
    private static void aliveAtFirst() {
        Iemotohall x = Halls.flat(2);
        Check.is("alive", x.ofPerson(1, 4), 1);
        x.die(1);
        Check.is("dead", x.ofPerson(1, 4), 0);
    }

    @Says(section = 1, text = "The first one is the HEAD of the HOUSE 0, without a TEACHER, and has the STEP 9 "
        + "(all of these by NONE).")
    private static void theFirstOne() {
        Iemotohall x = new Iemotohall();
        x.pass(3);
        x.person(-1, -1);
        Check.is("head of 0", x.ofHouse(0, 0), 0);
        Check.is("house", x.ofPerson(0, 5), 0);
        Check.is("houses", x.many(3), 1);
        Check.is("teacher", x.ofPerson(0, 0), -1);
        Check.is("step", x.ofPerson(0, 2), 9);
        for (int step = 1; step <= 9; step++) {
            Check.is("who gave " + step, x.giver(0, step, false), -1);
            Check.is("on which day " + step, x.giver(0, step, true), -1);
        }
    }

    @Says(section = 1, text = "Another one comes to a living TEACHER, and is of the HOUSE of that one.")
    private static void pupilsAreOfTheTeachersHouse() {
        Iemotohall x = Halls.flat(3);
        Halls.raise(x, 1, 8);
        x.part(1);
        Check.is("house of a pupil of 1", x.ofPerson(x.person(1, 0), 5), 1);
        Check.is("house of that one's pupil", x.ofPerson(x.person(3, 0), 5), 1);
        Check.is("house of a pupil of 2", x.ofPerson(x.person(2, 1), 5), 0);
        Check.is("houses", x.many(3), 2);
        Check.is("step", x.ofPerson(3, 2), 0);
    }

    @Says(section = 1, text = "One comes DOWN from another one, if that is its TEACHER, or the TEACHER of that, "
        + "and so on.")
    private static void comingDownHasNoEndBeforeTheLast() {
        Iemotohall x = Halls.chain(12);
        Check.state(x, "adopt(1, 2), by its pupil", () -> x.adopt(1, 2, false));
        Check.state(x, "adopt(1, 11), ten below", () -> x.adopt(1, 11, false));
        Check.is("adopt(11, 1), ten above", x.adopt(11, 1, false), 10);
        Iemotohall y = Halls.chain(12);
        Halls.raise(y, 1, 8);
        y.part(1);
        for (int p = 1; p < 12; p++) {
            Check.is("house of " + p, y.ofPerson(p, 5), 1);
        }
    }

    @Says(section = 1, text = "A LINE is UNBROKEN, if one is alive and the HEAD of its HOUSE")
    private static void linesOfHeads() {
        Iemotohall x = Halls.flat(2);
        Check.is("line of the head", x.ofPerson(0, 7), 1);
        Halls.raise(x, 1, 8);
        x.part(1);
        Check.is("line of a head that parted", x.ofPerson(1, 7), 1);
        x.die(1);
        Check.is("line of a dead head", x.ofPerson(1, 7), 0);
    }

    @Says(section = 1, text = "or is alive, and so is the LINE of its TEACHER.")
    private static void linesOfOthers() {
        Iemotohall x = Halls.chain(12);
        Check.is("line of the twelfth in a row", x.ofPerson(11, 7), 1);
        x.die(10);
        Check.is("line of a dead one with a living teacher", x.ofPerson(10, 7), 0);
        Check.is("line below a dead one", x.ofPerson(11, 7), 0);
        Check.is("line above a dead one", x.ofPerson(9, 7), 1);
        x.die(1);
        Check.is("line of 9 below 1", x.ofPerson(9, 7), 0);
        x.adopt(9, 0, false);
        Check.is("line of 9 anew", x.ofPerson(9, 7), 1);
        Check.is("line of 11, still below the dead 10", x.ofPerson(11, 7), 0);
    }

    @Says(section = 1, text = "HOUSES: at most 4, numbered from 0")
    private static void fourHousesEver() {
        Iemotohall x = Halls.flat(5);
        for (int p = 1; p <= 4; p++) {
            Halls.raise(x, p, 8);
        }
        for (int p = 1; p <= 3; p++) {
            Check.is("part(" + p + ")", x.part(p), p);
        }
        Check.state(x, "a fifth house", () -> x.part(4));
        x.die(3);
        Check.state(x, "a fifth house, though nobody of one lives", () -> x.part(4));
        Check.is("houses", x.many(3), 4);
        Check.is("head of the last one", x.ofHouse(3, 0), -1);
    }

    @Says(section = 1, text = "each with a HEAD (NONE, if nobody of it lives)")
    private static void headlessHouses() {
        Iemotohall x = Halls.flat(2);
        Check.is("head", x.ofHouse(0, 0), 0);
        x.die(1);
        Check.is("head, the last one that lives", x.ofHouse(0, 0), 0);
        x.die(0);
        Check.is("head, when nobody lives", x.ofHouse(0, 0), -1);
    }

    @Says(section = 1, text = "an HEIR (NONE at first)")
    private static void noHeirAtFirst() {
        Iemotohall x = Halls.flat(2);
        Check.is("heir of the first house", x.ofHouse(0, 1), -1);
        Halls.raise(x, 1, 8);
        x.heir(0, 1);
        x.part(1);
        Check.is("heir of a new house", x.ofHouse(1, 1), -1);
    }

    // ---- promises 1 and 2

    @Says(promise = 1, text = "Creates a hall without PEOPLE.")
    private static void aNewHallIsEmpty() {
        Iemotohall x = new Iemotohall();
        for (int what = 0; what <= 13; what++) {
            Check.is("many(" + what + ")", x.many(what), 0);
        }
        Check.index(x, "person 0", () -> x.ofPerson(0, 0));
        Check.index(x, "house 0", () -> x.ofHouse(0, 0));
        Check.index(x, "mean step of the house 0", () -> x.meanStep(0));
        Check.index(x, "secret 0", () -> x.ofSecret(0, 0));
        Check.index(x, "utensil 0", () -> x.ofUtensil(0, 0));
    }

    @Says(promise = 2, text = "the TEACHER (not looked at for the first one)")
    private static void theFirstOnesTeacherIsNotLookedAt() {
        for (int teacher : new int[] {-1, 0, 1, 12, Integer.MIN_VALUE, Integer.MAX_VALUE}) {
            Iemotohall x = new Iemotohall();
            Check.is("person(" + teacher + ", -1)", x.person(teacher, -1), 0);
            Check.is("teacher", x.ofPerson(0, 0), -1);
        }
    }

    @Says(promise = 2, text = "the KIN (NONE: none that counts)")
    private static void noKin() {
        Iemotohall x = Halls.flat(2);
        Check.is("kin of the first one", x.ofPerson(0, 1), -1);
        Check.is("kin of another one", x.ofPerson(1, 1), -1);
        x.person(0, -1);
        x.give(2);
        Check.is("next head, no child of 0", x.ofHouse(0, 4), 2);
    }

    @Says(promise = 2, text = "Returns the number.")
    private static void personAnswersItsNumber() {
        Iemotohall x = new Iemotohall();
        for (int p = 0; p < 12; p++) {
            Check.is("person", x.person(p - 1, -1), p);
        }
    }

    @Says(promise = 2, text = "it is not the first one, and there is no such TEACHER")
    private static void noSuchTeacher() {
        Iemotohall x = Halls.flat(2);
        Check.indexOutside(x, "teacher", 0, 1, t -> x.person(t, -1));
        Check.is("person(1, -1)", x.person(1, -1), 2);
    }

    @Says(promise = 2, text = "(for the first one, too) kin is not NONE, and there is no such PERSON")
    private static void noSuchKin() {
        Iemotohall first = new Iemotohall();
        Check.index(first, "kin of 0, the first one itself", () -> first.person(-1, 0));
        Check.indexOutside(first, "kin, the first one,", -1, 0, k -> first.person(-1, k));
        Iemotohall x = Halls.flat(2);
        Check.indexOutside(x, "kin", -1, 1, k -> x.person(0, k));
        Check.is("person(0, 1)", x.person(0, 1), 2);
    }

    @Says(promise = 2, text = "there were 12")
    private static void theThirteenth() {
        Iemotohall x = Halls.flat(11);
        Check.is("the twelfth", x.person(0, -1), 11);
        Check.state(x, "the 13th", () -> x.person(0, -1));
        Check.state(x, "the 13th to the twelfth", () -> x.person(11, 0));
    }

    @Says(promise = 2, text = "or the TEACHER is dead")
    private static void deadTeacher() {
        Iemotohall x = Halls.flat(2);
        x.die(1);
        Check.state(x, "person(1, -1)", () -> x.person(1, -1));
        Check.state(x, "person(1, 1)", () -> x.person(1, 1));
        x.die(0);
        Check.state(x, "person(0, -1), nobody lives", () -> x.person(0, -1));
    }
}
