/** Promises 2 and 5 to 9: person, die, adopt, heir, part, pass. */
public final class PeopleTest {
    public static void main(String[] args) {
        personFirst();
        personLater();
        personRefused();
        dieHeirIsNext();
        dieHeirIsPassedOver();
        dieChildIsNext();
        dieChildOfAnotherHouseIsPassedOver();
        dieHighestIsNext();
        dieMovesPupils();
        dieNotHead();
        dieLast();
        dieRefused();
        adopt();
        adoptRefused();
        heir();
        heirRefused();
        part();
        partRefused();
        pass();
        passRefused();
        Check.end("PeopleTest");
    }

    private static void personFirst() {
        Iemotohall x = new Iemotohall();
        Check.index(x, "person(0, 0), the first", () -> x.person(0, 0));
        Check.index(x, "person(0, -2), the first", () -> x.person(0, -2));
        Check.is("person(77, -1), the first", x.person(77, -1), 0);
        int[] due = {-1, -1, 9, 60, 1, 0, -1, 1, 0, 0, 0, 0};
        for (int what = 0; what < due.length; what++) {
            Check.is("ofPerson(0, " + what + ")", x.ofPerson(0, what), due[what]);
        }
        Check.is("houses", x.many(3), 1);
        Check.is("head of 0", x.ofHouse(0, 0), 0);
        Check.is("heir of 0", x.ofHouse(0, 1), -1);
        Check.is("steps given", x.many(10), 0);
    }

    private static void personLater() {
        Iemotohall x = Halls.flat(2);
        Check.is("person(1, 0)", x.person(1, 0), 2);
        int[] due = {1, 0, 0, 60, 1, 0, -1, 1, 0, 0, 0, 0};
        for (int what = 0; what < due.length; what++) {
            Check.is("ofPerson(2, " + what + ")", x.ofPerson(2, what), due[what]);
        }
        x.die(2);
        Check.is("person with a dead kin", x.person(1, 2), 3);
        Check.is("kin of 3", x.ofPerson(3, 1), 2);
        Halls.raise(x, 1, 8);
        x.part(1);
        Check.is("person in the other house", x.person(3, -1), 4);
        Check.is("house of 4", x.ofPerson(4, 5), 1);
        Check.is("houses", x.many(3), 2);
    }

    private static void personRefused() {
        Iemotohall x = Halls.flat(2);
        Check.index(x, "person(-1, -1), the third", () -> x.person(-1, -1));
        Check.index(x, "person(2, -1)", () -> x.person(2, -1));
        Check.index(x, "person(0, 2)", () -> x.person(0, 2));
        Check.index(x, "person(0, -2)", () -> x.person(0, -2));
        x.die(1);
        Check.state(x, "person(1, -1) of a dead teacher", () -> x.person(1, -1));
        Check.index(x, "person(1, 2) of a dead teacher", () -> x.person(1, 2));
        Iemotohall full = Halls.flat(12);
        Check.state(full, "the 13th", () -> full.person(0, -1));
        Check.index(full, "the 13th with no such teacher", () -> full.person(12, -1));
        Check.index(full, "the 13th with no such kin", () -> full.person(0, 12));
        Check.is("people", full.many(1), 12);
    }

    private static void dieHeirIsNext() {
        Iemotohall x = Halls.flat(3);
        x.person(0, 0);
        x.give(2);
        x.heir(0, 1);
        Check.is("die(0) with an heir", x.die(0), 1);
        Check.is("head", x.ofHouse(0, 0), 1);
        Check.is("heir then", x.ofHouse(0, 1), -1);
        Check.is("alive", x.ofPerson(0, 4), 0);
        Check.is("teacher of the head", x.ofPerson(1, 0), -1);
    }

    private static void dieHeirIsPassedOver() {
        Iemotohall dead = Halls.flat(3);
        dead.heir(0, 2);
        dead.die(2);
        Check.is("heir that is dead", dead.ofHouse(0, 1), 2);
        Check.is("next without the dead heir", dead.ofHouse(0, 4), 1);
        Check.is("die(0) with a dead heir", dead.die(0), 1);
        Check.is("heir then", dead.ofHouse(0, 1), -1);
        Iemotohall gone = Halls.flat(3);
        gone.heir(0, 1);
        Halls.raise(gone, 1, 8);
        gone.part(1);
        Check.is("heir that parted", gone.ofHouse(0, 1), 1);
        Check.is("die(0) with an heir that parted", gone.die(0), 2);
        Check.is("head of the heir's house", gone.ofHouse(1, 0), 1);
    }

    private static void dieChildIsNext() {
        Iemotohall x = Halls.flat(1);
        for (int p = 1; p <= 5; p++) {
            x.person(0, p == 1 ? -1 : 0);
        }
        x.person(0, 2);
        x.person(0, -1);
        Halls.raise(x, 7, 3);
        Halls.raise(x, 6, 3);
        Halls.raise(x, 3, 1);
        Halls.raise(x, 4, 1);
        Halls.raise(x, 5, 2);
        Check.is("next, the child of step 2", x.ofHouse(0, 4), 5);
        x.die(5);
        Check.is("next, the smaller of two children of step 1", x.ofHouse(0, 4), 3);
        Check.is("die(0)", x.die(0), 3);
        Check.is("next of 3 has no child: of step 3 the smaller", x.ofHouse(0, 4), 6);
    }

    private static void dieChildOfAnotherHouseIsPassedOver() {
        Iemotohall x = Halls.flat(1);
        x.person(0, 0);
        x.person(0, -1);
        Halls.raise(x, 1, 8);
        x.part(1);
        Check.is("die(0) whose child parted", x.die(0), 2);
    }

    private static void dieHighestIsNext() {
        Iemotohall x = Halls.flat(5);
        Halls.raise(x, 3, 2);
        Halls.raise(x, 4, 2);
        Check.is("die(0)", x.die(0), 3);
        Check.is("die(3)", x.die(3), 4);
        Check.is("die(4)", x.die(4), 1);
    }

    private static void dieMovesPupils() {
        Iemotohall x = Halls.flat(3);
        x.person(1, -1);
        x.person(0, -1);
        x.die(4);
        x.heir(0, 3);
        Check.is("die(0)", x.die(0), 3);
        Check.is("teacher of the next head", x.ofPerson(3, 0), -1);
        Check.is("teacher of 1", x.ofPerson(1, 0), 3);
        Check.is("teacher of 2", x.ofPerson(2, 0), 3);
        Check.is("teacher of the dead 4", x.ofPerson(4, 0), 0);
        Check.is("line of 1", x.ofPerson(1, 7), 1);
        Iemotohall deep = Halls.chain(3);
        deep.heir(0, 2);
        deep.die(0);
        Check.is("a pupil of another one keeps it", deep.ofPerson(1, 0), 2);
        Check.is("teacher of the head that was below", deep.ofPerson(2, 0), -1);
    }

    private static void dieNotHead() {
        Iemotohall x = Halls.chain(4);
        x.heir(0, 3);
        Check.is("die(1), not the head", x.die(1), 0);
        Check.is("teacher of 2", x.ofPerson(2, 0), 1);
        Check.is("teacher of 1", x.ofPerson(1, 0), 0);
        Check.is("line of 2", x.ofPerson(2, 7), 0);
        Check.is("line of 3", x.ofPerson(3, 7), 0);
        Check.is("heir", x.ofHouse(0, 1), 3);
        Check.is("coins of the dead", x.ofPerson(1, 3), 60);
        Check.is("die(0)", x.die(0), 3);
        Check.is("teacher of 2, whose dead teacher was no head", x.ofPerson(2, 0), 1);
        Check.is("teacher of the dead 1", x.ofPerson(1, 0), 0);
    }

    private static void dieLast() {
        Iemotohall x = Halls.flat(2);
        x.heir(0, 1);
        x.die(1);
        Check.is("die(0), the last", x.die(0), -1);
        Check.is("head", x.ofHouse(0, 0), -1);
        Check.is("heir", x.ofHouse(0, 1), -1);
        Check.is("teacher of the dead 1", x.ofPerson(1, 0), 0);
        Check.is("next", x.ofHouse(0, 4), -1);
        Check.is("those that live", x.many(2), 0);
    }

    private static void dieRefused() {
        Iemotohall x = Halls.flat(2);
        x.die(1);
        Check.state(x, "die(1) again", () -> x.die(1));
        Check.index(x, "die(2)", () -> x.die(2));
        Check.index(x, "die(-1)", () -> x.die(-1));
    }

    private static void adopt() {
        Iemotohall x = Halls.flat(4);
        Check.is("adopt(1, 2, false)", x.adopt(1, 2, false), 0);
        Check.is("teacher of 1", x.ofPerson(1, 0), 2);
        Check.is("kin of 1", x.ofPerson(1, 1), -1);
        Check.is("adopt(1, 2, true), the same again", x.adopt(1, 2, true), 2);
        Check.is("kin of 1", x.ofPerson(1, 1), 2);
        Check.is("adopt(1, 3, false)", x.adopt(1, 3, false), 2);
        Check.is("kin of 1 stays", x.ofPerson(1, 1), 2);
        x.die(3);
        Check.is("adopt(1, 0, true) from a dead teacher", x.adopt(1, 0, true), 3);
        Check.is("line of 1", x.ofPerson(1, 7), 1);
    }

    private static void adoptRefused() {
        Iemotohall x = Halls.chain(5);
        x.person(0, -1);
        Check.index(x, "adopt(6, 0)", () -> x.adopt(6, 0, true));
        Check.index(x, "adopt(-1, 0)", () -> x.adopt(-1, 0, true));
        Check.index(x, "adopt(1, 6)", () -> x.adopt(1, 6, true));
        Check.index(x, "adopt(1, -1)", () -> x.adopt(1, -1, true));
        Check.state(x, "adopt(0, 1), a head", () -> x.adopt(0, 1, true));
        Check.state(x, "adopt(0, 5), a head", () -> x.adopt(0, 5, true));
        Check.state(x, "adopt(1, 1), itself", () -> x.adopt(1, 1, true));
        Check.state(x, "adopt(1, 2), who comes down", () -> x.adopt(1, 2, true));
        Check.state(x, "adopt(1, 4), who comes down", () -> x.adopt(1, 4, true));
        x.die(3);
        Check.state(x, "adopt(1, 4), who comes down by a dead one", () -> x.adopt(1, 4, true));
        Check.state(x, "adopt(4, 3), a dead teacher", () -> x.adopt(4, 3, true));
        Check.state(x, "adopt(3, 0), a dead person", () -> x.adopt(3, 0, true));
        Halls.raise(x, 5, 8);
        x.part(5);
        Check.state(x, "adopt(1, 5), of another house", () -> x.adopt(1, 5, true));
        Check.state(x, "adopt(5, 0), a head of another house", () -> x.adopt(5, 0, true));
        Check.is("adopt(4, 1)", x.adopt(4, 1, false), 3);
    }

    private static void heir() {
        Iemotohall x = Halls.flat(3);
        Check.is("heir(0, 1)", x.heir(0, 1), -1);
        Check.is("heir of 0", x.ofHouse(0, 1), 1);
        Check.is("heir(0, 2)", x.heir(0, 2), 1);
        Check.is("heir(0, 2) again", x.heir(0, 2), 2);
        Check.is("heir(0, -1)", x.heir(0, -1), 2);
        Check.is("heir of 0", x.ofHouse(0, 1), -1);
    }

    private static void heirRefused() {
        Iemotohall x = Halls.flat(4);
        Check.index(x, "heir(1, 1)", () -> x.heir(1, 1));
        Check.index(x, "heir(-1, 1)", () -> x.heir(-1, 1));
        Check.index(x, "heir(0, 4)", () -> x.heir(0, 4));
        Check.index(x, "heir(0, -2)", () -> x.heir(0, -2));
        Check.state(x, "heir(0, 0), the head", () -> x.heir(0, 0));
        Halls.raise(x, 1, 8);
        x.part(1);
        Check.state(x, "heir(1, 2), of another house", () -> x.heir(1, 2));
        Check.state(x, "heir(0, 1), of another house", () -> x.heir(0, 1));
        x.heir(0, 3);
        x.die(2);
        Check.state(x, "heir(0, 2), dead", () -> x.heir(0, 2));
        Check.is("heir of 0", x.ofHouse(0, 1), 3);
    }

    private static void part() {
        Iemotohall x = Halls.chain(5);
        x.person(0, -1);
        x.die(3);
        Halls.raise(x, 1, 8);
        x.heir(0, 1);
        Check.is("part(1)", x.part(1), 1);
        int[] houses = {0, 1, 1, 1, 1, 0};
        for (int p = 0; p < houses.length; p++) {
            Check.is("house of " + p, x.ofPerson(p, 5), houses[p]);
        }
        Check.is("teacher of 1", x.ofPerson(1, 0), -1);
        Check.is("teacher of 2", x.ofPerson(2, 0), 1);
        Check.is("head of 1", x.ofHouse(1, 0), 1);
        Check.is("heir of 1", x.ofHouse(1, 1), -1);
        Check.is("head of 0", x.ofHouse(0, 0), 0);
        Check.is("line of 1", x.ofPerson(1, 7), 1);
        Check.is("line of 2", x.ofPerson(2, 7), 1);
        Halls.raise(x, 5, 9);
        Check.is("part(5)", x.part(5), 2);
        Check.is("houses", x.many(3), 3);
    }

    private static void partRefused() {
        Iemotohall x = Halls.flat(7);
        Check.index(x, "part(7)", () -> x.part(7));
        Check.index(x, "part(-1)", () -> x.part(-1));
        Check.state(x, "part(0), a head", () -> x.part(0));
        Halls.raise(x, 1, 7);
        Check.state(x, "part(1) with the step 7", () -> x.part(1));
        for (int p = 1; p <= 6; p++) {
            Halls.raise(x, p, 8);
        }
        x.die(6);
        Check.state(x, "part(6), dead", () -> x.part(6));
        for (int p = 1; p <= 3; p++) {
            Check.is("part(" + p + ")", x.part(p), p);
        }
        Check.state(x, "part(1) again, a head", () -> x.part(1));
        Check.state(x, "part(4), the fifth house", () -> x.part(4));
        Check.is("houses", x.many(3), 4);
    }

    private static void pass() {
        Iemotohall x = Halls.flat(3);
        x.person(1, -1);
        x.person(1, -1);
        x.die(4);
        Check.is("pass(1)", x.pass(1), 1);
        int[] coins = {65, 63, 61, 61, 60};
        for (int p = 0; p < coins.length; p++) {
            Check.is("coins of " + p, x.ofPerson(p, 3), coins[p]);
        }
        x.die(1);
        Check.is("pass(90)", x.pass(90), 91);
        Check.is("coins of 0", x.ofPerson(0, 3), 65 + 90 * 3);
        Check.is("coins of the dead 1, with a pupil", x.ofPerson(1, 3), 63);
        Check.is("coins of 3", x.ofPerson(3, 3), 151);
    }

    private static void passRefused() {
        Iemotohall x = Halls.flat(1);
        Check.argument(x, "pass(0)", () -> x.pass(0));
        Check.argument(x, "pass(-1)", () -> x.pass(-1));
        Check.argument(x, "pass(91)", () -> x.pass(91));
        Iemotohall empty = new Iemotohall();
        Check.is("pass(2) without people", empty.pass(2), 2);
    }
}
