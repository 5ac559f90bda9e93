import java.math.BigInteger;
import java.util.ArrayList;
import java.util.List;
import java.util.function.IntBinaryOperator;

/**
 * The bounds of the promises 19, 24 and 29, a sentence each: ofPerson, many, digest; and that neither refused calls
 * nor questions change anything.
 */
public final class AskingBoundsTest {
    public static void main(String[] args) {
        Sentences.run(AskingBoundsTest.class);
    }

    // ---- the whole document

    @Says(text = "A method that throws an exception changes nothing.")
    private static void refusedCallsChangeNothing() {
        Iemotohall x = Halls.flat(4);
        x.secret(1, 0, -1);
        x.utensil(1, 0, -1, 0, 1);
        x.heir(0, 2);
        x.die(3);
        Halls.leave(x, 2, 0, 2);
        Check.state(x, "person", () -> x.person(3, -1));
        Check.state(x, "give", () -> x.give(0));
        Check.state(x, "revoke", () -> x.revoke(1, 1));
        Check.state(x, "die", () -> x.die(3));
        Check.state(x, "adopt", () -> x.adopt(1, 3, true));
        Check.state(x, "heir", () -> x.heir(0, 3));
        Check.index(x, "heir", () -> x.heir(0, 4));
        Check.state(x, "part", () -> x.part(2));
        Check.argument(x, "pass", () -> x.pass(91));
        Check.state(x, "secret", () -> x.secret(1, 1, 0));
        Check.state(x, "read", () -> x.read(3, 0));
        Check.state(x, "copy", () -> x.copy(2, 0));
        Check.state(x, "rebuild", () -> x.rebuild(2, 0));
        Check.state(x, "utensil", () -> x.utensil(2, 0, -1, 0, 1));
        Check.state(x, "lend", () -> x.lend(0, 3));
        Check.state(x, "mend", () -> x.mend(0, true));
        Check.argument(x, "quarrel", () -> x.quarrel(1, 1, true));
        Check.state(x, "hold, a dead guest", () -> x.hold(1, 0b1001));
        Check.state(x, "hold, coins lack", () -> x.hold(2, 1));
        Check.is("the next number of people", x.person(0, -1), 4);
        Check.is("that of secrets", x.secret(0, 0, -1), 1);
        Check.is("that of utensils", x.utensil(0, 0, -1, 0, 1), x.many(6) - 1);
    }

    @Says(text = "what would be (nothing is changed)")
    private static void askingChangesNothing() {
        Iemotohall x = Halls.flat(4);
        x.give(1);
        x.secret(1, 1, -1);
        x.utensil(0, 0, -1, 0, 9);
        x.heir(0, 2);
        x.quarrel(2, 3, true);
        long before = x.digest();
        Check.is("plan", x.plan(0, 0b1110, -1), 3);
        Check.is("plan", x.plan(0, 0b0010, 0), 0);
        Check.is("wouldFall", x.wouldFall(1, 1), 1);
        Check.is("wouldFall", x.wouldFall(0, 1), 10);
        Check.is("wouldLose", x.wouldLose(1), 1);
        Check.is("digest", x.digest(), before);
        Check.is("chosen", x.ofUtensil(0, 6), 0);
        Check.is("seen", x.ofUtensil(0, 7), 0);
        Check.is("gatherings", x.many(7), 0);
        Check.is("coins of the host", x.ofPerson(0, 3), 60 + 5 - 36);
        Check.is("step", x.ofPerson(1, 2), 1);
        Check.is("lost", x.ofSecret(0, 2), 0);
        Check.is("heir", x.ofHouse(0, 1), 2);
    }

    // ---- promise 19: ofPerson

    @Says(promise = 19, text = "0 the TEACHER (NONE), 1 the KIN (NONE), 2 the STEP, 3 COINS, 4 1 if alive, otherwise 0")
    private static void ofPersonTellsItself() {
        Iemotohall x = Halls.flat(2);
        x.person(1, 1);
        int[] first = {-1, -1, 9, 60, 1};
        int[] last = {1, 1, 0, 60, 1};
        for (int what = 0; what < first.length; what++) {
            Check.is("ofPerson(0, " + what + ")", x.ofPerson(0, what), first[what]);
            Check.is("ofPerson(2, " + what + ")", x.ofPerson(2, what), last[what]);
        }
        x.die(1);
        Check.is("alive", x.ofPerson(1, 4), 0);
        Check.is("teacher, dead", x.ofPerson(2, 0), 1);
        Check.is("kin, dead", x.ofPerson(2, 1), 1);
    }

    @Says(promise = 19, text = "5 the HOUSE, 6 the NAME (NONE), 7 1 if the LINE is UNBROKEN, otherwise 0")
    private static void ofPersonTellsHouseNameAndLine() {
        Iemotohall x = Halls.chain(4);
        Halls.raise(x, 1, 8);
        Halls.raise(x, 2, 5);
        Check.is("name by 0", x.ofPerson(1, 6), 1);
        Check.is("name by 1", x.ofPerson(2, 6), 14);
        Check.is("name of the first one", x.ofPerson(0, 6), -1);
        Check.is("name without steps", x.ofPerson(3, 6), -1);
        x.part(1);
        Check.is("house of the last one", x.ofPerson(3, 5), 1);
        Check.is("house of the first one", x.ofPerson(0, 5), 0);
        Check.is("line of the last one", x.ofPerson(3, 7), 1);
        x.die(2);
        Check.is("line of the last one, broken", x.ofPerson(3, 7), 0);
        Check.is("line of the dead one", x.ofPerson(2, 7), 0);
        Check.is("name of the dead one", x.ofPerson(2, 6), 14);
    }

    @Says(promise = 19, text = "8 how many living PEOPLE have it as TEACHER")
    private static void ofPersonTellsPupils() {
        Iemotohall x = Halls.flat(12);
        Check.is("pupils of 0", x.ofPerson(0, 8), 11);
        x.die(11);
        Check.is("pupils of 0, one dead", x.ofPerson(0, 8), 10);
        x.adopt(10, 9, false);
        Check.is("pupils of 0, one adopted", x.ofPerson(0, 8), 9);
        x.die(9);
        Check.is("living pupils of a dead one", x.ofPerson(9, 8), 1);
    }

    @Says(promise = 19, text = "9 the set of SECRETS that were READ, 10 that of those that are UNDERSTOOD, "
        + "11 how many gatherings it held")
    private static void ofPersonTellsSecretsAndGatherings() {
        Iemotohall x = Halls.flat(2);
        for (int s = 0; s < 8; s++) {
            x.secret(0, 0, s == 7 ? 6 : -1);
        }
        Check.is("read, all eight", x.ofPerson(0, 9), 255);
        Check.is("understood, all eight", x.ofPerson(0, 10), 255);
        x.read(1, 7);
        x.read(1, 0);
        Check.is("read", x.ofPerson(1, 9), 129);
        Check.is("understood", x.ofPerson(1, 10), 1);
        x.hold(1, 1);
        Check.is("held by the host", x.ofPerson(1, 11), 1);
        Check.is("held by the guest", x.ofPerson(0, 11), 0);
        x.die(0);
        Check.is("read, though some are lost now", x.ofPerson(0, 9), 255);
        Check.is("understood by a dead one", x.ofPerson(0, 10), 255);
    }

    @Says(promise = 19, text = "there is no such PERSON")
    private static void ofNoSuchPerson() {
        Iemotohall x = Halls.flat(2);
        Check.indexOutside(x, "ofPerson", 0, 1, p -> x.ofPerson(p, 0));
        Check.index(x, "ofPerson(2, 12)", () -> x.ofPerson(2, 12));
        Check.index(x, "ofPerson(-1, -1)", () -> x.ofPerson(-1, -1));
        Iemotohall full = Halls.flat(12);
        Check.indexOutside(full, "ofPerson", 0, 11, p -> full.ofPerson(p, 11));
    }

    @Says(promise = 19, text = "what is not 0 to 11")
    private static void ofPersonWhat() {
        Iemotohall x = Halls.flat(1);
        Check.argumentOutside(x, "what", 0, 11, what -> x.ofPerson(0, what));
    }

    // ---- promise 24: many

    @Says(promise = 24, text = "0 DAY, 1 PEOPLE, 2 those that live, 3 HOUSES, 4 SECRETS, 5 those that are LOST, "
        + "6 UTENSILS, 7 gatherings, 8 the SEASON, 9 COINS of all")
    private static void manyTellsAll() {
        Iemotohall x = Halls.flat(5);
        Halls.raise(x, 1, 8);
        x.part(1);
        int day = x.many(0);
        x.pass(1);
        x.secret(2, 0, -1);
        x.secret(1, 0, -1);
        x.utensil(3, 0, -1, 0, 1);
        x.hold(3, 2);
        Halls.bury(x, 2, 4);
        int coins = 0;
        for (int p = 0; p < 5; p++) {
            coins += x.ofPerson(p, 3);
        }
        int[] due = {day + 1, 5, 3, 2, 2, 1, 1, 1, (day + 1) / 30 % 4, coins};
        for (int what = 0; what < due.length; what++) {
            Check.is("many(" + what + ")", x.many(what), due[what]);
        }
    }

    @Says(promise = 24, text = "10 STEPS that were GIVEN ever (not those by NONE), 11 STEPS that FELL ever")
    private static void manyTellsStepsEver() {
        Iemotohall x = Halls.chain(3);
        Check.is("given, none but by none", x.many(10), 0);
        x.give(1);
        x.give(2);
        x.give(2);
        Check.is("given, one refused", x.many(10), 2);
        Check.is("fell", x.many(11), 0);
        x.wouldFall(1, 1);
        Check.is("fell, only asked", x.many(11), 0);
        x.revoke(1, 1);
        Check.is("fell", x.many(11), 2);
        Check.is("given, though fallen", x.many(10), 2);
        x.give(1);
        x.die(1);
        Check.is("given, though dead", x.many(10), 3);
        Check.is("fell, not by death", x.many(11), 2);
    }

    @Says(promise = 24, text = "12 what was lost of FEES, 13 pairs that QUARREL")
    private static void manyTellsFeesAndQuarrels() {
        Iemotohall x = Halls.chain(4);
        x.person(0, 0);
        x.give(1);
        x.give(2);
        x.die(1);
        x.die(0);
        Check.is("lost of fees", x.many(12), 0);
        x.give(3);
        Check.is("lost of fees, 2 of 5", x.many(12), 2);
        for (int one = 0; one < 5; one++) {
            for (int other = 0; other < one; other++) {
                x.quarrel(one, other, true);
            }
        }
        Check.is("pairs of five", x.many(13), 10);
        Iemotohall full = Halls.flat(12);
        for (int p = 0; p < 11; p++) {
            full.quarrel(p, 11, true);
        }
        Check.is("pairs of twelve with the last", full.many(13), 11);
    }

    @Says(promise = 24, text = "what is not 0 to 13")
    private static void manyWhat() {
        Iemotohall x = Halls.flat(1);
        Check.argumentOutside(x, "what", 0, 13, x::many);
        Iemotohall empty = new Iemotohall();
        Check.argumentOutside(empty, "what without people", 0, 13, empty::many);
    }

    // ---- promise 29: digest

    @Says(promise = 29, text = "A number d starts with 58226; for each of the following numbers v, d becomes "
        + "d * 31 + v")
    private static void digestOfAnEmptyHall() {
        long d = 58226;
        for (int what = 0; what <= 13; what++) {
            d = d * 31;
        }
        Check.is("digest", new Iemotohall().digest(), d);
        Iemotohall x = new Iemotohall();
        x.pass(1);
        long power = 1;
        for (int what = 1; what <= 13; what++) {
            power *= 31;
        }
        Check.is("digest of the day 1", x.digest(), d + power);
    }

    @Says(promise = 29, text = "many() of 0 to 13; PERSON by PERSON ofPerson() of 0 to 11, wouldLose()")
    private static void digestOfThoseWithoutSteps() {
        Iemotohall x = Halls.flat(3);
        x.quarrel(1, 2, true);
        x.secret(2, 0, -1);
        x.hold(2, 1);
        x.die(0);
        Check.is("digest", x.digest(), digestOf(numbers(x)));
    }

    @Says(promise = 29, text = "which wraps around as a 64-bit integer")
    private static void digestWrapsAround() {
        Iemotohall x = full();
        BigInteger d = BigInteger.valueOf(58226);
        for (int v : numbers(x)) {
            d = d.multiply(BigInteger.valueOf(31)).add(BigInteger.valueOf(v));
        }
        Check.is("far beyond 64 bits", d.bitLength() > 500, true);
        Check.is("digest", x.digest(), d.longValue());
    }

    @Says(promise = 29, text = "for each STEP that is held (from 1 up), giver() of both, by whom first, "
        + "and wouldFall()")
    private static void digestOfTheStepsHeld() {
        Iemotohall x = Halls.flat(2);
        x.pass(7);
        x.give(1);
        Check.is("digest of one step", x.digest(), digestOf(numbers(x)));
        x.give(1);
        Check.is("digest of two steps", x.digest(), digestOf(numbers(x)));
        x.revoke(1, 1);
        Check.is("digest of none", x.digest(), digestOf(numbers(x)));
    }

    @Says(promise = 29, text = "HOUSE by HOUSE ofHouse() of 0 to 4; SECRET by SECRET ofSecret() of 0 to 6; "
        + "UTENSIL by UTENSIL ofUtensil() of 0 to 7.")
    private static void digestOfAFullHall() {
        Iemotohall x = full();
        long due = digestOf(numbers(x));
        Check.is("digest", x.digest(), due);
        Check.is("digest again", x.digest(), due);
    }

    /** As many as a hall can have of each, but for houses: to ask for all numbers has to stay below 512 calls. */
    private static Iemotohall full() {
        Iemotohall x = Halls.flat(12);
        Halls.raise(x, 1, 8);
        x.part(1);
        for (int s = 0; s < 8; s++) {
            x.secret(s, 0, s - 1);
        }
        for (int u = 0; u < 12; u++) {
            x.utensil(u, u % 4, -1, u % 10, 1 + u % 9);
        }
        x.hold(4, 0b111);
        x.quarrel(4, 5, true);
        x.die(3);
        return x;
    }

    private static List<Integer> numbers(Iemotohall x) {
        List<Integer> all = new ArrayList<>();
        for (int what = 0; what <= 13; what++) {
            all.add(x.many(what));
        }
        for (int p = 0; p < x.many(1); p++) {
            for (int what = 0; what <= 11; what++) {
                all.add(x.ofPerson(p, what));
            }
            all.add(x.wouldLose(p));
            for (int step = 1; step <= x.ofPerson(p, 2); step++) {
                all.addAll(List.of(x.giver(p, step, false), x.giver(p, step, true), x.wouldFall(p, step)));
            }
        }
        addRows(all, x.many(3), 4, x::ofHouse);
        addRows(all, x.many(4), 6, x::ofSecret);
        addRows(all, x.many(6), 7, x::ofUtensil);
        return all;
    }

    private static void addRows(List<Integer> all, int rows, int most, IntBinaryOperator of) {
        for (int row = 0; row < rows; row++) {
            for (int what = 0; what <= most; what++) {
                all.add(of.applyAsInt(row, what));
            }
        }
    }

    private static long digestOf(List<Integer> numbers) {
        long d = 58226;
        for (int v : numbers) {
            d = d * 31 + v;
        }
        return d;
    }
}
