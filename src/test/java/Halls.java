/** Halls that the tests begin with. */
final class Halls {
    private Halls() {
    }

    /** So many people, all taught by the first one. */
    static Iemotohall flat(int people) {
        Iemotohall x = new Iemotohall();
        for (int p = 0; p < people; p++) {
            x.person(0, -1);
        }
        return x;
    }

    /** So many people, each taught by the one before. */
    static Iemotohall chain(int people) {
        Iemotohall x = new Iemotohall();
        for (int p = 0; p < people; p++) {
            x.person(p - 1, -1);
        }
        return x;
    }

    /** Gives steps up to that one, and lets days go by where coins lack. */
    static void raise(Iemotohall x, int person, int step) {
        for (int tries = 0; tries < 40 && x.ofPerson(person, 2) < step; tries++) {
            if (x.give(person) == -4) {
                x.pass(90);
            }
        }
        Check.is("step of " + person + " after raise", x.ofPerson(person, 2), step);
    }

    /** Lets somebody who owns no utensil spend coins, until so many are left; the guest comes to gatherings. */
    static void leave(Iemotohall x, int person, int guest, int coins) {
        for (int held = 0; held < 4 && (x.ofPerson(person, 3) - coins) % 4 != 0; held++) {
            x.hold(person, 1 << guest);
        }
        for (int bought = 0; bought < 12 && x.ofPerson(person, 3) > coins; bought++) {
            x.utensil(person, 0, -1, 0, Math.min(9, (x.ofPerson(person, 3) - coins) / 4));
        }
        Check.is("coins of " + person + " after leave", x.ofPerson(person, 3), coins);
    }

    /** Lets them die, the first named first. */
    static void bury(Iemotohall x, int... people) {
        for (int person : people) {
            x.die(person);
        }
    }
}
