/** The bounds of section 3 and of the promises 5 to 9, 21 and 25, a sentence each: die to pass, ofHouse, meanStep. */
public final class HousesBoundsTest {
    public static void main(String[] args) {
        Sentences.run(HousesBoundsTest.class);
    }

    private static void isHead(Iemotohall x, int house, int due) {
        Check.is("who would be the head of " + house, x.ofHouse(house, 4), due);
    }

    /** The first one and so many pupils of it, who hold the step that allows to part. */
    private static Iemotohall masters(int many) {
        Iemotohall x = Halls.flat(1 + many);
        for (int p = 1; p <= many; p++) {
            Halls.raise(x, p, 8);
        }
        return x;
    }

    // ---- section 3: who is head after a death

    @Says(section = 3, text = "the next HEAD is the HEIR, if that lives, and is of the HOUSE")
    private static void theHeirIsNext() {
        Iemotohall x = Halls.flat(3);
        x.person(2, 0);
        x.give(1);
        x.heir(0, 2);
        isHead(x, 0, 2);
        Check.is("die(0), whose heir is neither child nor highest", x.die(0), 2);
        Check.is("head", x.ofHouse(0, 0), 2);
        Iemotohall dead = Halls.flat(3);
        dead.heir(0, 2);
        dead.die(2);
        isHead(dead, 0, 1);
        Check.is("die(0), whose heir is dead", dead.die(0), 1);
        Iemotohall gone = masters(2);
        gone.heir(0, 1);
        gone.part(1);
        isHead(gone, 0, 2);
        Check.is("die(0), whose heir is of another house", gone.die(0), 2);
    }

    @Says(section = 3, text = "otherwise of those that live and are of it the child (KIN) of the dead one with the "
        + "greatest STEP")
    private static void theHighestChildIsNext() {
        Iemotohall x = Halls.flat(2);
        x.person(0, 0);
        x.person(1, 0);
        x.person(0, 1);
        Halls.raise(x, 1, 5);
        Halls.raise(x, 4, 5);
        Halls.raise(x, 3, 1);
        isHead(x, 0, 3);
        Halls.raise(x, 2, 2);
        isHead(x, 0, 2);
        x.die(2);
        isHead(x, 0, 3);
        Check.is("die(0)", x.die(0), 3);
        Iemotohall gone = masters(1);
        gone.person(0, -1);
        gone.person(0, 0);
        gone.adopt(1, 0, true);
        isHead(gone, 0, 1);
        gone.part(1);
        Check.is("die(0), whose highest child is of another house", gone.die(0), 3);
    }

    @Says(section = 3, text = "without one the one with the greatest STEP of all")
    private static void theHighestOfAllIsNext() {
        Iemotohall x = masters(1);
        for (int p = 2; p <= 4; p++) {
            x.person(0, 1);
        }
        Halls.raise(x, 3, 1);
        Halls.raise(x, 4, 2);
        isHead(x, 0, 1);
        x.part(1);
        isHead(x, 0, 4);
        x.die(4);
        Check.is("die(0), whose highest is dead", x.die(0), 3);
    }

    @Says(section = 3, text = "(each time of several the smallest number)")
    private static void theSmallestOfSeveral() {
        Iemotohall x = Halls.flat(3);
        isHead(x, 0, 1);
        Halls.raise(x, 1, 1);
        Halls.raise(x, 2, 1);
        Check.is("die(0), two with the greatest step", x.die(0), 1);
        Iemotohall y = Halls.flat(2);
        for (int p = 2; p <= 4; p++) {
            y.person(0, 0);
        }
        Halls.raise(y, 4, 2);
        Halls.raise(y, 3, 2);
        Check.is("die(0), two children with the greatest step", y.die(0), 3);
    }

    @Says(section = 3, text = "NONE without any.")
    private static void nobodyIsNext() {
        Iemotohall x = masters(1);
        x.part(1);
        isHead(x, 0, -1);
        Check.is("die(0), alone in its house", x.die(0), -1);
        Check.is("head of 0", x.ofHouse(0, 0), -1);
        Check.is("head of 1", x.ofHouse(1, 0), 1);
        Iemotohall y = Halls.flat(2);
        y.die(1);
        Check.is("die(0), with a dead one", y.die(0), -1);
    }

    @Says(section = 3, text = "The next HEAD has no TEACHER any more")
    private static void theNextHeadHasNoTeacher() {
        Iemotohall x = Halls.chain(4);
        x.heir(0, 3);
        x.die(0);
        Check.is("teacher of the head that was three below", x.ofPerson(3, 0), -1);
        Check.is("line of the head below", x.ofPerson(3, 7), 1);
        Check.is("pupils of its teacher", x.ofPerson(2, 8), 0);
        x.die(3);
        Check.is("teacher of the next head, whose was the dead one", x.ofPerson(1, 0), -1);
    }

    @Says(section = 3, text = "those of the HOUSE that live and whose TEACHER was the dead one have the next HEAD "
        + "as that")
    private static void pupilsGoToTheNextHead() {
        Iemotohall x = Halls.flat(4);
        x.person(3, -1);
        x.heir(0, 4);
        Check.is("die(0)", x.die(0), 4);
        for (int p = 1; p <= 3; p++) {
            Check.is("teacher of " + p, x.ofPerson(p, 0), 4);
            Check.is("line of " + p, x.ofPerson(p, 7), 1);
        }
        Iemotohall y = Halls.chain(4);
        y.heir(0, 2);
        y.die(0);
        Check.is("teacher of the dead one's pupil", y.ofPerson(1, 0), 2);
        Check.is("teacher of another one's pupil", y.ofPerson(3, 0), 2);
        Check.is("pupils of the head", y.ofPerson(2, 8), 2);
    }

    @Says(section = 3, text = "(without a next HEAD, and those that are dead, keep the dead one)")
    private static void deadPupilsKeepTheDeadOne() {
        Iemotohall x = Halls.flat(3);
        x.die(2);
        x.die(0);
        Check.is("teacher of the dead pupil", x.ofPerson(2, 0), 0);
        Iemotohall y = Halls.flat(3);
        Halls.bury(y, 2, 1);
        Check.is("die(0), without a next head", y.die(0), -1);
        Check.is("teacher of 1", y.ofPerson(1, 0), 0);
        Check.is("teacher of 2", y.ofPerson(2, 0), 0);
    }

    @Says(section = 3, text = "The HEIR is NONE then.")
    private static void theHeirIsNoneThen() {
        Iemotohall x = Halls.flat(4);
        x.heir(0, 2);
        x.die(0);
        Check.is("heir, that is the head now", x.ofHouse(0, 1), -1);
        x.heir(0, 3);
        x.die(3);
        x.die(2);
        Check.is("heir that was passed over", x.ofHouse(0, 1), -1);
        x.die(1);
        Check.is("heir without a head", x.ofHouse(0, 1), -1);
    }

    @Says(section = 3, text = "As another one DIES, nothing else changes (LINES are broken by that).")
    private static void theDeathOfAnother() {
        Iemotohall x = Halls.chain(4);
        x.person(1, 2);
        x.utensil(2, 0, -1, 0, 1);
        x.give(1);
        x.give(2);
        x.heir(0, 2);
        int[] before = new int[11];
        for (int what = 0; what < before.length; what++) {
            before[what] = x.ofPerson(2, what);
        }
        Check.is("die(2)", x.die(2), 0);
        before[4] = 0;
        before[7] = 0;
        for (int what = 0; what < before.length; what++) {
            Check.is("ofPerson(2, " + what + ")", x.ofPerson(2, what), before[what]);
        }
        Check.is("teacher of the pupil", x.ofPerson(3, 0), 2);
        Check.is("line of the pupil", x.ofPerson(3, 7), 0);
        Check.is("kin of the child", x.ofPerson(4, 1), 2);
        Check.is("heir", x.ofHouse(0, 1), 2);
        Check.is("head", x.ofHouse(0, 0), 0);
        Check.is("owner", x.ofUtensil(0, 4), 2);
        Check.is("givers", x.giver(2, 1, false), 1);
    }

    // ---- section 3: to adopt, to part, a day

    @Says(section = 3, text = "To ADOPT a living PERSON that is not a HEAD")
    private static void adoptedAreLivingAndNoHeads() {
        Iemotohall x = masters(2);
        x.person(0, -1);
        x.part(1);
        x.person(1, -1);
        Check.state(x, "adopt(0, 2), a head", () -> x.adopt(0, 2, false));
        Check.state(x, "adopt(1, 4), a head that parted", () -> x.adopt(1, 4, false));
        x.die(3);
        Check.state(x, "adopt(3, 2), dead", () -> x.adopt(3, 2, true));
        Check.state(x, "adopt(3, 0), dead, the same again", () -> x.adopt(3, 0, true));
        Iemotohall y = Halls.chain(3);
        y.person(0, -1);
        y.heir(0, 3);
        Halls.bury(y, 1, 0);
        Check.is("head by death", y.ofHouse(0, 0), 3);
        Check.state(y, "adopt(3, 2), a head, by one who does not come down from it", () -> y.adopt(3, 2, false));
    }

    @Says(section = 3, text = "it has a new living TEACHER (also the same again)")
    private static void adoptedByALivingOne() {
        Iemotohall x = Halls.flat(4);
        Check.is("adopt(1, 0), the same again", x.adopt(1, 0, false), 0);
        Check.is("adopt(1, 2)", x.adopt(1, 2, false), 0);
        Check.is("adopt(1, 2), the same again", x.adopt(1, 2, true), 2);
        Check.is("teacher", x.ofPerson(1, 0), 2);
        x.die(2);
        x.die(3);
        Check.state(x, "adopt(1, 3), dead", () -> x.adopt(1, 3, false));
        Check.state(x, "adopt(1, 2), dead, the same again", () -> x.adopt(1, 2, false));
        Check.is("adopt(1, 0), from a dead one", x.adopt(1, 0, false), 2);
    }

    @Says(section = 3, text = "of the same HOUSE, who does not come DOWN from it, and is not itself.")
    private static void adoptedWithinTheHouse() {
        Iemotohall x = masters(2);
        x.person(2, -1);
        x.person(3, -1);
        x.part(1);
        Check.state(x, "adopt(2, 1), of another house", () -> x.adopt(2, 1, false));
        Check.state(x, "adopt(2, 3), its pupil", () -> x.adopt(2, 3, false));
        Check.state(x, "adopt(2, 4), its pupil's pupil", () -> x.adopt(2, 4, false));
        Check.state(x, "adopt(2, 2), itself", () -> x.adopt(2, 2, false));
        x.die(3);
        Check.state(x, "adopt(2, 4), below a dead one", () -> x.adopt(2, 4, true));
        Check.is("adopt(4, 2), its teacher's teacher", x.adopt(4, 2, false), 3);
        Check.state(x, "adopt(2, 4), its pupil now", () -> x.adopt(2, 4, false));
        x.adopt(4, 0, false);
        Check.is("adopt(2, 4), its pupil no more", x.adopt(2, 4, false), 0);
    }

    @Says(section = 3, text = "KIN, too, if it is told so.")
    private static void kinIfToldSo() {
        Iemotohall x = Halls.flat(3);
        x.person(1, 1);
        x.adopt(3, 2, false);
        Check.is("kin, not told", x.ofPerson(3, 1), 1);
        x.adopt(3, 2, true);
        Check.is("kin, told", x.ofPerson(3, 1), 2);
        x.adopt(3, 0, true);
        Check.is("kin, told again", x.ofPerson(3, 1), 0);
        isHead(x, 0, 3);
    }

    @Says(section = 3, text = "To PART: a living PERSON with the STEP 8 or more, not a HEAD")
    private static void whoParts() {
        Iemotohall x = masters(3);
        Halls.raise(x, 2, 9);
        x.revoke(3, 8);
        Check.state(x, "part(3) with the step 7", () -> x.part(3));
        Check.is("part(1) with the step 8", x.part(1), 1);
        Check.is("part(2) with the step 9", x.part(2), 2);
        Check.state(x, "part(2), a head", () -> x.part(2));
        Check.state(x, "part(0), a head", () -> x.part(0));
        Halls.raise(x, 3, 8);
        x.die(3);
        Check.state(x, "part(3), dead", () -> x.part(3));
    }

    @Says(section = 3, text = "is the HEAD of a new HOUSE, without a TEACHER")
    private static void whoPartedIsHead() {
        Iemotohall x = masters(2);
        x.heir(0, 1);
        Check.is("part(2)", x.part(2), 1);
        Check.is("head of the new house", x.ofHouse(1, 0), 2);
        Check.is("teacher", x.ofPerson(2, 0), -1);
        Check.is("house", x.ofPerson(2, 5), 1);
        Check.is("head of the old house", x.ofHouse(0, 0), 0);
        Check.is("heir of the old house", x.ofHouse(0, 1), 1);
        Check.is("pupils of 0", x.ofPerson(0, 8), 1);
    }

    @Says(section = 3, text = "all who come DOWN from it are of that HOUSE, too.")
    private static void whoGoesAlong() {
        Iemotohall x = masters(2);
        x.person(1, -1);
        x.person(3, -1);
        x.person(4, -1);
        x.person(2, 1);
        x.die(4);
        x.part(1);
        int[] houses = {0, 1, 0, 1, 1, 1, 0};
        for (int p = 0; p < houses.length; p++) {
            Check.is("house of " + p, x.ofPerson(p, 5), houses[p]);
        }
        Iemotohall y = masters(2);
        y.adopt(2, 1, false);
        y.part(2);
        y.part(1);
        Check.is("house of one that parted before its teacher", y.ofPerson(2, 5), 1);
    }

    @Says(section = 3, text = "A DAY (0 at first): each living PERSON gets 1 of COINS, and 2 for each living PERSON "
        + "whose TEACHER it is.")
    private static void coinsOfADay() {
        Iemotohall x = Halls.flat(4);
        x.person(1, -1);
        Check.is("day at first", x.many(0), 0);
        x.die(3);
        x.pass(1);
        int[] coins = {65, 63, 61, 60, 61};
        for (int p = 0; p < coins.length; p++) {
            Check.is("coins of " + p, x.ofPerson(p, 3), coins[p]);
        }
        x.die(1);
        x.pass(1);
        Check.is("coins of a dead one with a living pupil", x.ofPerson(1, 3), 63);
        Check.is("coins of one whose pupil died", x.ofPerson(0, 3), 65 + 3);
    }

    // ---- promises 5 to 7: die, adopt, heir

    @Says(promise = 5, text = "Returns the HEAD of that HOUSE then (NONE).")
    private static void dieAnswersTheHead() {
        Iemotohall x = masters(3);
        x.part(1);
        x.person(1, -1);
        Check.is("die(2), not the head", x.die(2), 0);
        Check.is("die(4), not the head of 1", x.die(4), 1);
        Check.is("die(0)", x.die(0), 3);
        Check.is("die(1), the last of its house", x.die(1), -1);
        Check.is("die(3), the last of all", x.die(3), -1);
    }

    @Says(promise = 5, text = "there is no such PERSON")
    private static void noSuchPersonDies() {
        Iemotohall x = Halls.flat(2);
        Check.indexOutside(x, "die", 0, 1, x::die);
    }

    @Says(promise = 5, text = "it is dead")
    private static void nobodyDiesTwice() {
        Iemotohall x = Halls.flat(3);
        x.die(2);
        Check.state(x, "die(2)", () -> x.die(2));
        x.die(0);
        Check.state(x, "die(0), a head once", () -> x.die(0));
    }

    @Says(promise = 6, text = "Returns the TEACHER before.")
    private static void adoptAnswersTheTeacherBefore() {
        Iemotohall x = Halls.flat(3);
        Check.is("adopt(2, 1)", x.adopt(2, 1, false), 0);
        Check.is("adopt(2, 1) again", x.adopt(2, 1, true), 1);
        Check.is("adopt(2, 0)", x.adopt(2, 0, true), 1);
    }

    @Says(promise = 6, text = "there is no such PERSON, of both")
    private static void adoptOfNoSuchPerson() {
        Iemotohall x = Halls.flat(3);
        Check.indexOutside(x, "adopt", 0, 2, p -> x.adopt(p, 1, true));
        Check.indexOutside(x, "adopt by one", 0, 2, t -> x.adopt(1, t, true));
        Check.index(x, "adopt of a head by none", () -> x.adopt(0, 3, true));
    }

    @Says(promise = 6, text = "that cannot be (section 3)")
    private static void adoptThatCannotBe() {
        Iemotohall x = Halls.chain(3);
        Check.state(x, "of the head", () -> x.adopt(0, 1, true));
        Check.state(x, "by itself", () -> x.adopt(1, 1, true));
        Check.state(x, "by its pupil", () -> x.adopt(1, 2, true));
        x.die(2);
        Check.state(x, "by a dead one, its pupil", () -> x.adopt(1, 2, true));
        Check.state(x, "of a dead one", () -> x.adopt(2, 0, true));
    }

    @Says(promise = 7, text = "who (NONE: none)")
    private static void noHeir() {
        Iemotohall x = Halls.flat(3);
        x.give(2);
        x.heir(0, 1);
        Check.is("heir(0, -1)", x.heir(0, -1), 1);
        isHead(x, 0, 2);
        Halls.bury(x, 1, 2, 0);
        Check.is("heir(0, -1), nobody lives", x.heir(0, -1), -1);
    }

    @Says(promise = 7, text = "Returns the HEIR before (NONE).")
    private static void heirAnswersTheHeirBefore() {
        Iemotohall x = Halls.flat(3);
        Check.is("heir(0, 1)", x.heir(0, 1), -1);
        Check.is("heir(0, 1) again", x.heir(0, 1), 1);
        x.die(1);
        Check.is("heir(0, 2) after a dead one", x.heir(0, 2), 1);
        Check.is("heir(0, -1)", x.heir(0, -1), 2);
        Check.is("heir(0, -1) again", x.heir(0, -1), -1);
    }

    @Says(promise = 7, text = "there is no such HOUSE")
    private static void heirOfNoSuchHouse() {
        Iemotohall x = masters(1);
        Check.indexOutside(x, "heir", 0, 0, h -> x.heir(h, 1));
        Check.index(x, "heir of none", () -> x.heir(1, -1));
        x.part(1);
        Check.indexOutside(x, "heir", 0, 1, h -> x.heir(h, -1));
    }

    @Says(promise = 7, text = "or person is not NONE, and there is no such PERSON")
    private static void noSuchHeir() {
        Iemotohall x = Halls.flat(2);
        Check.indexOutside(x, "heir", -1, 1, p -> x.heir(0, p));
    }

    @Says(promise = 7, text = "the PERSON is dead, of another HOUSE, or its HEAD")
    private static void whoIsNoHeir() {
        Iemotohall x = masters(2);
        x.person(0, -1);
        x.part(1);
        x.person(1, -1);
        Check.state(x, "heir(0, 1), head of another house", () -> x.heir(0, 1));
        Check.state(x, "heir(0, 4), of another house", () -> x.heir(0, 4));
        Check.state(x, "heir(1, 2), of another house", () -> x.heir(1, 2));
        Check.state(x, "heir(0, 0), the head", () -> x.heir(0, 0));
        Check.state(x, "heir(1, 1), the head", () -> x.heir(1, 1));
        x.die(3);
        Check.state(x, "heir(0, 3), dead", () -> x.heir(0, 3));
        Check.is("heir(1, 4)", x.heir(1, 4), -1);
    }

    @Says(text = "If several exceptions apply, the one that is named first is thrown.")
    private static void adoptAndHeirNameTheIndexFirst() {
        Iemotohall x = Halls.flat(2);
        Check.index(x, "adopt of the head by nobody", () -> x.adopt(0, 2, false));
        Check.index(x, "adopt of nobody by itself", () -> x.adopt(2, 2, false));
        Check.index(x, "heir of no such house, its head elsewhere", () -> x.heir(1, 0));
        x.die(1);
        Check.index(x, "adopt of a dead one by nobody", () -> x.adopt(1, -1, false));
        Check.index(x, "heir of no such house, a dead one", () -> x.heir(1, 1));
    }

    // ---- promises 8 and 9: part, pass

    @Says(promise = 8, text = "Returns the new HOUSE.")
    private static void partAnswersTheHouse() {
        Iemotohall x = masters(3);
        Check.is("part(3)", x.part(3), 1);
        Check.is("part(1)", x.part(1), 2);
        Check.is("part(2)", x.part(2), 3);
        Check.is("houses", x.many(3), 4);
    }

    @Says(promise = 8, text = "there is no such PERSON")
    private static void noSuchPersonParts() {
        Iemotohall x = masters(1);
        Check.indexOutside(x, "part", 0, 1, x::part);
    }

    @Says(promise = 8, text = "that cannot be (section 3), or there are 4 HOUSES")
    private static void partThatCannotBe() {
        Iemotohall x = masters(5);
        x.revoke(5, 8);
        Check.state(x, "of the head", () -> x.part(0));
        Check.state(x, "of one with the step 7", () -> x.part(5));
        x.part(1);
        x.part(2);
        Check.is("the fourth house", x.part(3), 3);
        Check.state(x, "the fifth house", () -> x.part(4));
        x.die(4);
        Check.state(x, "of a dead one", () -> x.part(4));
    }

    @Says(promise = 9, text = "Returns DAY then.")
    private static void passAnswersTheDay() {
        Iemotohall x = new Iemotohall();
        Check.is("pass(1), without people", x.pass(1), 1);
        Check.is("pass(90)", x.pass(90), 91);
        Check.is("day", x.many(0), 91);
    }

    @Says(promise = 9, text = "days is not 1 to 90")
    private static void passOfTooFewOrMany() {
        Iemotohall x = Halls.flat(1);
        Check.argumentOutside(x, "pass", 1, 90, x::pass);
        Check.is("pass(90)", x.pass(90), 90);
        Check.is("coins", x.ofPerson(0, 3), 150);
    }

    // ---- promises 21 and 25: ofHouse, meanStep

    @Says(promise = 21, text = "0 its HEAD (NONE), 1 its HEIR (NONE)")
    private static void headAndHeirOfAHouse() {
        Iemotohall x = Halls.flat(3);
        x.heir(0, 2);
        Check.is("head", x.ofHouse(0, 0), 0);
        Check.is("heir", x.ofHouse(0, 1), 2);
        Halls.bury(x, 1, 2, 0);
        Check.is("head of none", x.ofHouse(0, 0), -1);
        Check.is("heir of none", x.ofHouse(0, 1), -1);
    }

    @Says(promise = 21, text = "2 how many living PEOPLE are of it, 3 the set of those whose LINE is UNBROKEN")
    private static void livingOnesOfAHouse() {
        Iemotohall x = masters(1);
        x.person(0, -1);
        x.person(2, -1);
        x.person(1, -1);
        x.part(1);
        Check.is("living ones of 0", x.ofHouse(0, 2), 3);
        Check.is("unbroken ones of 0", x.ofHouse(0, 3), 0b01101);
        Check.is("unbroken ones of 1", x.ofHouse(1, 3), 0b10010);
        x.die(2);
        Check.is("living ones of 0, one dead", x.ofHouse(0, 2), 2);
        Check.is("unbroken ones of 0, one dead above another", x.ofHouse(0, 3), 1);
        x.die(4);
        x.die(1);
        Check.is("living ones of 1, all dead", x.ofHouse(1, 2), 0);
        Check.is("unbroken ones of 1, all dead", x.ofHouse(1, 3), 0);
    }

    @Says(promise = 21, text = "4 who would be the HEAD, if that died now (NONE, also without a HEAD)")
    private static void whoWouldBeHead() {
        Iemotohall x = Halls.flat(3);
        x.give(2);
        long before = x.digest();
        isHead(x, 0, 2);
        Check.is("nothing is changed", x.digest(), before);
        Check.is("die(0)", x.die(0), 2);
        isHead(x, 0, 1);
        x.die(1);
        isHead(x, 0, -1);
        x.die(2);
        isHead(x, 0, -1);
    }

    @Says(promise = 21, text = "there is no such HOUSE")
    private static void ofNoSuchHouse() {
        Iemotohall x = masters(1);
        Check.indexOutside(x, "ofHouse", 0, 0, h -> x.ofHouse(h, 0));
        Check.index(x, "ofHouse(1, 5)", () -> x.ofHouse(1, 5));
        x.part(1);
        Check.is("ofHouse(1, 0)", x.ofHouse(1, 0), 1);
    }

    @Says(promise = 21, text = "what is not 0 to 4")
    private static void ofHouseWhat() {
        Iemotohall x = Halls.flat(1);
        Check.argumentOutside(x, "what", 0, 4, what -> x.ofHouse(0, what));
        Iemotohall dead = Halls.flat(1);
        dead.die(0);
        Check.argument(dead, "what of 5 of a house without a head", () -> dead.ofHouse(0, 5));
    }

    @Says(promise = 25, text = "Returns the mean STEP of living PEOPLE that are of it, not cut")
    private static void meanIsNotCut() {
        Iemotohall x = Halls.flat(4);
        Check.isDouble("mean of 9, 0, 0, 0", x.meanStep(0), 2.25);
        x.die(3);
        Check.isDouble("mean of 9, 0, 0", x.meanStep(0), 3.0);
        x.give(1);
        Check.isDouble("mean of 9, 1, 0", x.meanStep(0), 10.0 / 3.0);
        Halls.raise(x, 1, 8);
        x.part(1);
        Check.isDouble("mean of 9, 0, one parted", x.meanStep(0), 4.5);
        Check.isDouble("mean of 8", x.meanStep(1), 8.0);
    }

    @Says(promise = 25, text = "0 without any.")
    private static void meanWithoutAny() {
        Iemotohall x = Halls.flat(2);
        x.die(0);
        Check.isDouble("mean of 0", x.meanStep(0), 0.0);
        x.die(1);
        Check.isDouble("mean of none", x.meanStep(0), 0.0);
    }

    @Says(promise = 25, text = "there is no such HOUSE")
    private static void meanOfNoSuchHouse() {
        Iemotohall x = masters(1);
        Check.indexOutside(x, "meanStep", 0, 0, x::meanStep);
        x.part(1);
        Check.indexOutside(x, "meanStep", 0, 1, x::meanStep);
    }
}
