/** Halls that the tests begin with. */
final class Halls {
    private Halls() {
    }

    /** So many people, all taught by the first one. */
    static Iemotohall flat(int people) {
        Iemotohall x = new Iemotohall();
        for (int p = 0; p < people; p++) {
            x.person(0, -1);
        }
        return x;
    }

    /** So many people, each taught by the one before. */
    static Iemotohall chain(int people) {
        Iemotohall x = new Iemotohall();
        for (int p = 0; p < people; p++) {
            x.person(p - 1, -1);
        }
        return x;
    }

    /** Gives steps up to that one, and lets days go by where coins lack. */
    static void raise(Iemotohall x, int person, int step) {
        for (int tries = 0; tries < 40 && x.ofPerson(person, 2) < step; tries++) {
            if (x.give(person) == -4) {
                x.pass(90);
            }
        }
        Check.is("step of " + person + " after raise", x.ofPerson(person, 2), step);
    }
}
