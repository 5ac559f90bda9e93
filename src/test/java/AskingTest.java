/** Promises 19, 21, 24, 25 and 29: ofPerson, ofHouse, many, meanStep, digest. */
public final class AskingTest {
    public static void main(String[] args) {
        ofPerson();
        ofPersonName();
        ofPersonLine();
        ofPersonRefused();
        ofHouse();
        ofHouseRefused();
        many();
        manyRefused();
        meanStep();
        digest();
        digestIsOfAll();
        fullHall();
        Check.end("AskingTest");
    }

    private static void ofPerson() {
        Iemotohall x = Halls.chain(3);
        x.person(1, 2);
        x.give(1);
        x.secret(1, 1, -1);
        x.secret(2, 0, 0);
        x.hold(1, 0b101);
        int[] due = {0, -1, 1, 60 - 5 - 6, 1, 0, -1, 1, 2, 1, 1, 1};
        for (int what = 0; what < due.length; what++) {
            Check.is("ofPerson(1, " + what + ")", x.ofPerson(1, what), due[what]);
        }
        Check.is("kin of 3", x.ofPerson(3, 1), 2);
        Check.is("what 2 read", x.ofPerson(2, 9), 2);
        Check.is("what 2 understands", x.ofPerson(2, 10), 0);
        x.die(3);
        Check.is("living pupils of 1", x.ofPerson(1, 8), 1);
        x.die(1);
        Check.is("alive", x.ofPerson(1, 4), 0);
        Check.is("living pupils of the dead 1", x.ofPerson(1, 8), 1);
        Check.is("teacher of the dead 1", x.ofPerson(1, 0), 0);
        Check.is("what the dead 1 read", x.ofPerson(1, 9), 1);
    }

    private static void ofPersonName() {
        Iemotohall x = Halls.chain(3);
        Halls.raise(x, 1, 4);
        Check.is("name with the step 4", x.ofPerson(1, 6), -1);
        Halls.raise(x, 1, 5);
        Check.is("name by 0", x.ofPerson(1, 6), 1);
        Halls.raise(x, 2, 5);
        Check.is("name by 1", x.ofPerson(2, 6), 12 + 2);
        Check.is("name of the first one", x.ofPerson(0, 6), -1);
        x.adopt(2, 0, false);
        x.die(1);
        Halls.raise(x, 2, 6);
        Check.is("name by 1 stays", x.ofPerson(2, 6), 14);
        x.revoke(2, 5);
        Check.is("name, fallen", x.ofPerson(2, 6), -1);
        Halls.raise(x, 2, 5);
        Check.is("name by 0, given anew", x.ofPerson(2, 6), 2);
    }

    private static void ofPersonLine() {
        Iemotohall x = Halls.chain(12);
        Check.is("line of 11", x.ofPerson(11, 7), 1);
        x.die(6);
        for (int p = 0; p < 12; p++) {
            Check.is("line of " + p, x.ofPerson(p, 7), p < 6 ? 1 : 0);
        }
        Check.is("set of unbroken lines", x.ofHouse(0, 3), 63);
        x.adopt(8, 2, false);
        Check.is("set of unbroken lines", x.ofHouse(0, 3), 0b111100111111);
        x.heir(0, 7);
        x.die(0);
        Check.is("line of the head below a dead one", x.ofPerson(7, 7), 1);
        Check.is("set of unbroken lines", x.ofHouse(0, 3), 0b111110111110);
    }

    private static void ofPersonRefused() {
        Iemotohall x = Halls.flat(1);
        Check.index(x, "ofPerson(1, 0)", () -> x.ofPerson(1, 0));
        Check.index(x, "ofPerson(-1, 12)", () -> x.ofPerson(-1, 12));
        Check.index(x, "ofPerson(12, 0)", () -> x.ofPerson(12, 0));
        Check.argument(x, "ofPerson(0, 12)", () -> x.ofPerson(0, 12));
        Check.argument(x, "ofPerson(0, -1)", () -> x.ofPerson(0, -1));
    }

    private static void ofHouse() {
        Iemotohall x = Halls.flat(4);
        x.person(1, -1);
        x.heir(0, 2);
        Halls.raise(x, 1, 8);
        x.part(1);
        x.heir(1, 4);
        x.die(3);
        int[] first = {0, 2, 2, 0b101, 2};
        int[] second = {1, 4, 2, 0b10010, 4};
        for (int what = 0; what < first.length; what++) {
            Check.is("ofHouse(0, " + what + ")", x.ofHouse(0, what), first[what]);
            Check.is("ofHouse(1, " + what + ")", x.ofHouse(1, what), second[what]);
        }
        x.die(4);
        Check.is("next of 1 alone", x.ofHouse(1, 4), -1);
        Check.is("heir of 1, dead", x.ofHouse(1, 1), 4);
        x.die(1);
        int[] none = {-1, -1, 0, 0, -1};
        for (int what = 0; what < none.length; what++) {
            Check.is("ofHouse(1, " + what + ") of none", x.ofHouse(1, what), none[what]);
        }
    }

    private static void ofHouseRefused() {
        Iemotohall x = Halls.flat(1);
        Check.index(x, "ofHouse(1, 0)", () -> x.ofHouse(1, 0));
        Check.index(x, "ofHouse(-1, 5)", () -> x.ofHouse(-1, 5));
        Check.index(x, "ofHouse(4, 0)", () -> x.ofHouse(4, 0));
        Check.index(x, "ofHouse(the greatest, 0)", () -> x.ofHouse(Integer.MAX_VALUE, 0));
        Check.argument(x, "ofHouse(0, 5)", () -> x.ofHouse(0, 5));
        Check.argument(x, "ofHouse(0, -1)", () -> x.ofHouse(0, -1));
    }

    private static void many() {
        Iemotohall x = Halls.chain(4);
        x.person(0, 0);
        x.give(1);
        x.give(2);
        x.die(1);
        x.die(0);
        x.give(3);
        x.secret(3, 1, -1);
        x.secret(2, 0, -1);
        x.revoke(3, 1);
        x.die(3);
        x.utensil(2, 0, -1, 0, 3);
        x.hold(2, 0b10000);
        x.quarrel(0, 2, true);
        x.quarrel(2, 4, true);
        x.pass(70);
        int coins = (60 + 5 + 2) + (55 + 3) + (55 + 3 - 12 - 3 + 70) + 55 + (60 + 70);
        int[] due = {70, 5, 2, 1, 2, 1, 1, 1, 2, coins, 3, 1, 2, 2};
        for (int what = 0; what < due.length; what++) {
            Check.is("many(" + what + ")", x.many(what), due[what]);
        }
        x.pass(50);
        Check.is("season of the day 120", x.many(8), 0);
    }

    private static void manyRefused() {
        Iemotohall x = new Iemotohall();
        Check.argument(x, "many(14)", () -> x.many(14));
        Check.argument(x, "many(-1)", () -> x.many(-1));
    }

    private static void meanStep() {
        Iemotohall x = Halls.flat(4);
        x.give(1);
        Check.isDouble("mean of 9, 1, 0, 0", x.meanStep(0), 2.5);
        x.die(2);
        Check.isDouble("mean of 9, 1, 0", x.meanStep(0), 10.0 / 3.0);
        Halls.raise(x, 1, 8);
        x.part(1);
        Check.isDouble("mean of 9, 0", x.meanStep(0), 4.5);
        Check.isDouble("mean of 8", x.meanStep(1), 8.0);
        x.die(1);
        Check.isDouble("mean of none", x.meanStep(1), 0.0);
        Check.index(x, "meanStep(2)", () -> x.meanStep(2));
        Check.index(x, "meanStep(-1)", () -> x.meanStep(-1));
    }

    private static void digest() {
        Iemotohall x = new Iemotohall();
        x.person(-1, -1);
        int[] all = {
            0, 1, 1, 1, 0, 0, 0, 0, 0, 60, 0, 0, 0, 0,
            -1, -1, 9, 60, 1, 0, -1, 1, 0, 0, 0, 0, 0,
            -1, -1, 9, -1, -1, 8, -1, -1, 7, -1, -1, 6, -1, -1, 5, -1, -1, 4, -1, -1, 3, -1, -1, 2, -1, -1, 1,
            0, -1, 1, 1, -1};
        Check.is("digest of one", x.digest(), digestOf(all));
        Check.is("digest of one again", x.digest(), digestOf(all));
    }

    private static void digestIsOfAll() {
        Iemotohall x = Halls.flat(2);
        x.pass(2);
        x.give(1);
        x.secret(1, 1, -1);
        x.utensil(0, 1, 0, 2, 3);
        x.hold(0, 2);
        int[] all = {
            2, 2, 2, 1, 1, 0, 1, 1, 0, 56 + 57, 1, 0, 0, 0,
            -1, -1, 9, 65 + 6 - 12 - 3, 1, 0, -1, 1, 1, 0, 0, 1, 0,
            -1, -1, 10, -1, -1, 8, -1, -1, 7, -1, -1, 6, -1, -1, 5, -1, -1, 4, -1, -1, 3, -1, -1, 2, -1, -1, 1,
            0, -1, 1, 57, 1, 0, -1, 1, 0, 1, 1, 0, 1,
            0, 2, 1,
            0, -1, 2, 3, 1,
            1, -1, 0, 0, 1, 1, 1,
            1, 0, 2, 3, 0, 0, 1, 2};
        Check.is("digest of all", x.digest(), digestOf(all));
    }

    /** Each row is full: a step beyond its end would show. */
    private static void fullHall() {
        Iemotohall x = Halls.flat(12);
        for (int p = 1; p <= 3; p++) {
            Halls.raise(x, p, 8);
        }
        for (int i = 0; i < 12; i++) {
            x.utensil(i, i % 4, -1, i % 10, 1 + i % 9);
        }
        for (int i = 0; i < 8; i++) {
            x.secret(11 - i, 0, i - 1);
        }
        x.quarrel(11, 10, true);
        Check.is("plan(11, {7, 8, 9, 10}, -1)", x.plan(11, 0b11110000000, -1), 3 - 6);
        Check.is("plan(11, {7, 8, 9, 10}, 3)", x.plan(11, 0b11110000000, 3), 11);
        Check.is("hold(10, {11})", x.hold(10, 1 << 11), 2 - 6);
        Check.is("seen by 11", x.ofUtensil(10, 7), 1 << 11);
        for (int p = 1; p <= 3; p++) {
            Check.is("part(" + p + ")", x.part(p), p);
        }
        Check.is("pupils of 0", x.ofPerson(0, 8), 8);
        Check.isDouble("mean of 9 and eight of 0", x.meanStep(0), 1.0);
        Check.is("living ones of 0", x.ofHouse(0, 2), 9);
        Check.is("unbroken ones of 0", x.ofHouse(0, 3), 0b111111110001);
        Check.is("living readers of 7", x.ofSecret(7, 4), 1);
        Check.is("those that may read 0 yet", x.ofSecret(0, 6), 11);
        Check.is("pass(1)", x.pass(1) > 0, true);
        Check.is("wouldLose(11)", x.wouldLose(11), 1);
        Check.is("wouldLose(4)", x.wouldLose(4), 128);
        Check.is("die(11)", x.die(11), 0);
        Check.is("those that are lost", x.many(5), 1);
        Check.is("digest is the same twice", x.digest() == x.digest(), true);
    }

    private static long digestOf(int[] all) {
        long d = 58226;
        for (int v : all) {
            d = d * 31 + v;
        }
        return d;
    }
}
