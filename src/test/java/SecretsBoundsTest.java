/** The bounds of section 4 and of the promises 10 to 13, 22 and 28, a sentence each: secret to rebuild, wouldLose. */
public final class SecretsBoundsTest {
    public static void main(String[] args) {
        Sentences.run(SecretsBoundsTest.class);
    }

    /** Three people, of whom 1 and 2 hold the first step; 1 wrote the secret 0 of that step and copied it. */
    private static Iemotohall copied() {
        Iemotohall x = Halls.flat(3);
        x.give(1);
        x.give(2);
        x.secret(1, 1, -1);
        x.copy(1, 0);
        return x;
    }

    // ---- section 4

    @Says(section = 4, text = "SECRETS: at most 8, numbered from 0")
    private static void eightSecretsEver() {
        Iemotohall x = Halls.flat(2);
        for (int s = 0; s < 8; s++) {
            Check.is("secret " + s, x.secret(1, 0, -1), s);
        }
        Check.state(x, "the ninth", () -> x.secret(1, 0, -1));
        x.die(1);
        Check.state(x, "the ninth, though all are lost", () -> x.secret(0, 0, -1));
        Check.is("secrets", x.many(4), 8);
    }

    @Says(section = 4, text = "each with the STEP it NEEDS (0 to 9)")
    private static void secretsNeedNoughtToNine() {
        Iemotohall x = Halls.flat(2);
        Check.is("of the step 0", x.ofSecret(x.secret(1, 0, -1), 0), 0);
        Check.is("of the step 9", x.ofSecret(x.secret(0, 9, -1), 0), 9);
        Check.is("those that may read the first yet", x.ofSecret(0, 6), 1);
        Check.is("those that may read the second yet", x.ofSecret(1, 6), 0);
    }

    @Says(section = 4, text = "a KEY (an older SECRET, or NONE), a COPY or not, LOST or not")
    private static void keysAreOlder() {
        Iemotohall x = Halls.flat(1);
        Check.index(x, "a key of its own number", () -> x.secret(0, 0, 0));
        x.secret(0, 0, -1);
        x.secret(0, 0, 0);
        Check.index(x, "a key that is not yet there", () -> x.secret(0, 0, 2));
        x.secret(0, 0, 0);
        Check.is("key of 0", x.ofSecret(0, 1), -1);
        Check.is("key of 1", x.ofSecret(1, 1), 0);
        Check.is("key of 2", x.ofSecret(2, 1), 0);
        Check.is("copy at first", x.ofSecret(2, 3), 0);
        Check.is("lost at first", x.ofSecret(2, 2), 0);
    }

    @Says(section = 4, text = "The one who wrote it, who is alive and holds that STEP, has READ it.")
    private static void writersHaveRead() {
        Iemotohall x = Halls.flat(3);
        x.give(1);
        x.secret(0, 0, -1);
        Check.is("of just that step", x.secret(1, 1, 0), 1);
        Check.is("what the writer read", x.ofPerson(1, 9), 2);
        Check.is("what the writer understands, without the key", x.ofPerson(1, 10), 0);
        Check.is("what another one read", x.ofPerson(2, 9), 0);
        Check.state(x, "by one who holds one step less", () -> x.secret(1, 2, -1));
        x.die(1);
        Check.state(x, "by a dead one", () -> x.secret(1, 1, -1));
    }

    @Says(section = 4, text = "To READ: a living PERSON that holds that STEP READS one that is not LOST")
    private static void whoReads() {
        Iemotohall x = copied();
        x.secret(0, 2, -1);
        Check.is("read(2, 0) of just its step", x.read(2, 0), true);
        Check.is("read(2, 0) again", x.read(2, 0), true);
        Check.state(x, "read(2, 1) of one step more", () -> x.read(2, 1));
        Halls.bury(x, 2, 1);
        Check.state(x, "read(0, 0), lost", () -> x.read(0, 0));
        Check.state(x, "read(1, 0), dead and lost", () -> x.read(1, 0));
    }

    @Says(section = 4, text = "what is READ stays so, whatever FALLS")
    private static void whatIsReadStays() {
        Iemotohall x = copied();
        x.secret(0, 0, 0);
        x.read(2, 0);
        x.read(2, 1);
        x.revoke(2, 1);
        x.revoke(1, 1);
        Check.is("what 2 read", x.ofPerson(2, 9), 3);
        Check.is("what 2 understands", x.ofPerson(2, 10), 3);
        Check.is("what 1 read", x.ofPerson(1, 9), 1);
        Check.is("living readers", x.ofSecret(0, 4), 2);
        x.die(1);
        Check.is("not lost, by one without the step", x.ofSecret(0, 2), 0);
        x.die(2);
        Check.is("what the dead 2 read", x.ofPerson(2, 9), 3);
    }

    @Says(section = 4, text = "It is UNDERSTOOD by a PERSON, if it was READ, and the KEY is NONE, or UNDERSTOOD.")
    private static void whatIsUnderstood() {
        Iemotohall x = Halls.flat(2);
        for (int s = 0; s < 8; s++) {
            x.secret(0, 0, s - 1);
        }
        for (int s = 7; s >= 1; s--) {
            Check.is("read(1, " + s + ") without the first key", x.read(1, s), false);
        }
        Check.is("what 1 understands, without the first key", x.ofPerson(1, 10), 0);
        Check.is("read(1, 0), without a key", x.read(1, 0), true);
        Check.is("what 1 understands, all eight", x.ofPerson(1, 10), 255);
        Iemotohall y = Halls.flat(2);
        y.secret(0, 0, -1);
        y.secret(0, 0, 0);
        y.secret(0, 0, 1);
        y.read(1, 0);
        Check.is("read(1, 2), the key not read", y.read(1, 2), false);
        Check.is("what 1 understands", y.ofPerson(1, 10), 1);
        y.die(0);
        Check.is("read(1, 2), the key lost", y.read(1, 2), false);
    }

    @Says(section = 4, text = "As the last living PERSON that has READ it dies, it is LOST.")
    private static void whatIsLost() {
        Iemotohall x = Halls.flat(4);
        x.secret(1, 0, -1);
        x.read(2, 0);
        x.die(1);
        Check.is("one reader lives", x.ofSecret(0, 2), 0);
        x.die(3);
        Check.is("one that has not read it died", x.ofSecret(0, 2), 0);
        x.die(2);
        Check.is("no reader lives", x.ofSecret(0, 2), 1);
        Check.is("those that are lost", x.many(5), 1);
        x.secret(0, 0, 0);
        x.die(0);
        Check.is("the head was the last reader", x.ofSecret(1, 2), 1);
    }

    @Says(section = 4, text = "A COPY is made of one that is not LOST by a living PERSON that UNDERSTANDS it, "
        + "for 10 COINS.")
    private static void copiesForTenCoins() {
        Iemotohall x = copied();
        Check.is("coins of the one who copied", x.ofPerson(1, 3), 45);
        x.secret(1, 0, -1);
        x.read(2, 1);
        x.revoke(1, 1);
        Halls.leave(x, 2, 0, 9);
        Check.state(x, "copy for 9 coins", () -> x.copy(2, 1));
        x.pass(1);
        Check.is("copy for 10 coins", x.copy(2, 1), 0);
        x.secret(1, 0, -1);
        Check.state(x, "copy by one who has not read it", () -> x.copy(0, 2));
        x.secret(0, 0, 2);
        x.read(1, 3);
        Check.is("copy by one who understands it, without the step", x.copy(1, 3), 36);
        x.die(1);
        Check.state(x, "copy of a lost one", () -> x.copy(0, 2));
    }

    @Says(section = 4, text = "To REBUILD a LOST one with a COPY: a living PERSON that holds that STEP, "
        + "and UNDERSTANDS the KEY (if there is one), has READ it")
    private static void whoRebuilds() {
        Iemotohall x = copied();
        x.secret(1, 0, 0);
        x.copy(1, 1);
        x.revoke(2, 1);
        x.die(1);
        Check.state(x, "rebuild(2, 0) without the step", () -> x.rebuild(2, 0));
        Check.state(x, "rebuild(2, 1) without the key", () -> x.rebuild(2, 1));
        x.give(2);
        Check.state(x, "rebuild(2, 1) without the key still", () -> x.rebuild(2, 1));
        Check.is("rebuild(2, 0) without a key", x.rebuild(2, 0), 1);
        Check.is("what 2 read", x.ofPerson(2, 9), 1);
        Check.is("rebuild(2, 1) with the key", x.rebuild(2, 1), 0);
        Check.is("what 2 understands", x.ofPerson(2, 10), 3);
        Check.is("coins of 2, nothing paid but two fees", x.ofPerson(2, 3), 50);
    }

    @Says(section = 4, text = "it is not LOST any more; the COPY is gone.")
    private static void whatIsRebuilt() {
        Iemotohall x = copied();
        x.die(1);
        Check.is("lost", x.ofSecret(0, 2), 1);
        Check.is("the copy stays, as it is lost", x.ofSecret(0, 3), 1);
        Check.is("rebuild(2, 0)", x.rebuild(2, 0), 0);
        Check.is("lost", x.ofSecret(0, 2), 0);
        Check.is("the copy is gone", x.ofSecret(0, 3), 0);
        Check.is("read by another one", x.read(0, 0), true);
        Halls.bury(x, 2, 0);
        Check.is("lost again", x.ofSecret(0, 2), 1);
        Iemotohall y = copied();
        y.die(1);
        y.rebuild(2, 0);
        y.die(2);
        Check.state(y, "rebuild(0, 0) without another copy", () -> y.rebuild(0, 0));
    }

    // ---- promise 10: secret

    @Says(promise = 10, text = "Returns its number.")
    private static void secretAnswersItsNumber() {
        Iemotohall x = Halls.flat(2);
        Check.is("the first", x.secret(1, 0, -1), 0);
        Check.is("the second", x.secret(0, 9, 0), 1);
    }

    @Says(promise = 10, text = "its KEY (NONE)")
    private static void secretWithoutAKey() {
        Iemotohall x = Halls.flat(1);
        x.secret(0, 0, -1);
        Check.is("key", x.ofSecret(0, 1), -1);
        Check.is("understood", x.ofSecret(0, 5), 1);
    }

    @Says(promise = 10, text = "there is no such PERSON, or key is not NONE, and there is no such SECRET")
    private static void secretOfNoSuchPersonOrKey() {
        Iemotohall x = Halls.flat(2);
        Check.indexOutside(x, "secret", 0, 1, p -> x.secret(p, 0, -1));
        Check.indexOutside(x, "the first secret's key", -1, -1, k -> x.secret(0, 0, k));
        x.secret(0, 0, -1);
        Check.indexOutside(x, "key", -1, 0, k -> x.secret(0, 0, k));
        Check.is("secret(0, 0, 0)", x.secret(0, 0, 0), 1);
    }

    @Says(promise = 10, text = "step is not 0 to 9")
    private static void secretOfNoSuchStep() {
        Iemotohall x = Halls.flat(1);
        Check.argumentOutside(x, "step", 0, 9, s -> x.secret(0, s, -1));
        Check.is("secret(0, 0, -1)", x.secret(0, 0, -1), 0);
        Check.is("secret(0, 9, -1)", x.secret(0, 9, -1), 1);
    }

    @Says(promise = 10, text = "there are 8, or the PERSON is dead, or does not hold the STEP")
    private static void secretThatCannotBe() {
        Iemotohall x = Halls.flat(3);
        x.die(2);
        Check.state(x, "of a dead one", () -> x.secret(2, 0, -1));
        Check.state(x, "of a step not held", () -> x.secret(1, 1, -1));
        for (int s = 0; s < 7; s++) {
            x.secret(0, 9, -1);
        }
        Check.is("the eighth", x.secret(1, 0, 6), 7);
        Check.state(x, "the ninth", () -> x.secret(1, 0, -1));
    }

    @Says(text = "If several exceptions apply, the one that is named first is thrown.")
    private static void secretNamesIndexThenArgument() {
        Iemotohall x = Halls.flat(2);
        for (int s = 0; s < 8; s++) {
            x.secret(0, 0, -1);
        }
        Check.index(x, "no such person, no such step", () -> x.secret(2, 10, -1));
        Check.index(x, "no such key, no such step", () -> x.secret(0, -1, 8));
        Check.argument(x, "no such step, and there are 8", () -> x.secret(0, 10, -1));
        Halls.leave(x, 1, 0, 0);
        Check.index(x, "copy of no such secret, by one without coins", () -> x.copy(1, 8));
        x.die(1);
        Check.index(x, "read of no such secret, by a dead one", () -> x.read(1, 8));
        Check.index(x, "rebuild of no such secret, by a dead one", () -> x.rebuild(1, -1));
        Check.index(x, "rebuild by nobody of one that is not lost", () -> x.rebuild(2, 0));
    }

    // ---- promises 11 to 13: read, copy, rebuild

    @Says(promise = 11, text = "Returns whether it is UNDERSTOOD then.")
    private static void readAnswersWhetherUnderstood() {
        Iemotohall x = Halls.flat(2);
        x.secret(0, 0, -1);
        x.secret(0, 0, 0);
        Check.is("read(1, 1)", x.read(1, 1), false);
        Check.is("read(1, 0)", x.read(1, 0), true);
        Check.is("read(1, 1) again", x.read(1, 1), true);
        Check.is("read(0, 1) of the own one", x.read(0, 1), true);
    }

    @Says(promise = 11, text = "there is no such PERSON, or SECRET")
    private static void readOfNoSuch() {
        Iemotohall x = Halls.flat(2);
        Check.index(x, "the secret 0, without any", () -> x.read(0, 0));
        x.secret(0, 0, -1);
        Check.indexOutside(x, "read by", 0, 1, p -> x.read(p, 0));
        Check.indexOutside(x, "read", 0, 0, s -> x.read(1, s));
    }

    @Says(promise = 11, text = "the PERSON is dead, or does not hold the STEP, or it is LOST")
    private static void readThatCannotBe() {
        Iemotohall x = copied();
        x.person(0, -1);
        x.secret(2, 0, -1);
        Check.state(x, "of one step more", () -> x.read(3, 0));
        x.die(2);
        Check.state(x, "by a dead one", () -> x.read(2, 0));
        Check.state(x, "of a lost one", () -> x.read(3, 1));
        Check.is("what 3 read", x.ofPerson(3, 9), 0);
    }

    @Says(promise = 12, text = "Returns COINS of the PERSON then.")
    private static void copyAnswersTheCoins() {
        Iemotohall x = Halls.flat(2);
        x.secret(0, 0, -1);
        x.secret(0, 0, -1);
        Check.is("copy(0, 0)", x.copy(0, 0), 50);
        Check.is("copy(0, 1)", x.copy(0, 1), 40);
        Check.is("coins of 0", x.ofPerson(0, 3), 40);
        Check.is("copied", x.ofSecret(1, 3), 1);
    }

    @Says(promise = 12, text = "there is no such PERSON, or SECRET")
    private static void copyOfNoSuch() {
        Iemotohall x = Halls.flat(2);
        x.secret(0, 0, -1);
        Check.indexOutside(x, "copy by", 0, 1, p -> x.copy(p, 0));
        Check.indexOutside(x, "copy", 0, 0, s -> x.copy(0, s));
    }

    @Says(promise = 12, text = "the PERSON is dead, or does not UNDERSTAND it, it is LOST, there is one, or COINS lack")
    private static void copyThatCannotBe() {
        Iemotohall x = Halls.flat(4);
        x.secret(0, 0, -1);
        x.secret(0, 0, 0);
        x.read(1, 1);
        x.read(2, 0);
        Check.state(x, "not read", () -> x.copy(3, 0));
        Check.state(x, "read, but not understood", () -> x.copy(1, 1));
        x.die(2);
        Check.state(x, "by a dead one", () -> x.copy(2, 0));
        x.copy(0, 0);
        Check.state(x, "there is one", () -> x.copy(0, 0));
        x.secret(3, 0, -1);
        x.die(3);
        Check.state(x, "lost, by a dead one", () -> x.copy(3, 2));
        Halls.leave(x, 0, 1, 9);
        Check.state(x, "for 9 coins", () -> x.copy(0, 1));
        Check.is("copied", x.ofSecret(1, 3), 0);
    }

    @Says(promise = 13, text = "Returns how many SECRETS are LOST then.")
    private static void rebuildAnswersTheLostOnes() {
        Iemotohall x = copied();
        x.secret(1, 0, -1);
        x.secret(1, 0, -1);
        x.copy(1, 2);
        x.die(1);
        Check.is("rebuild(2, 0)", x.rebuild(2, 0), 2);
        Check.is("rebuild(0, 2)", x.rebuild(0, 2), 1);
        Check.is("those that are lost", x.many(5), 1);
    }

    @Says(promise = 13, text = "there is no such PERSON, or SECRET")
    private static void rebuildOfNoSuch() {
        Iemotohall x = copied();
        x.die(1);
        Check.indexOutside(x, "rebuild by", 0, 2, p -> x.rebuild(p, 0));
        Check.indexOutside(x, "rebuild", 0, 0, s -> x.rebuild(2, s));
    }

    @Says(promise = 13, text = "it is not LOST, there is no COPY, or the PERSON cannot (section 4)")
    private static void rebuildThatCannotBe() {
        Iemotohall x = copied();
        x.secret(1, 0, -1);
        x.person(0, -1);
        Check.state(x, "not lost", () -> x.rebuild(2, 0));
        x.die(1);
        Check.state(x, "no copy", () -> x.rebuild(2, 1));
        Check.state(x, "not the step", () -> x.rebuild(3, 0));
        Check.state(x, "by the dead writer", () -> x.rebuild(1, 0));
        x.die(2);
        Check.state(x, "by a dead one that holds the step", () -> x.rebuild(2, 0));
        Check.is("rebuild(0, 0)", x.rebuild(0, 0), 1);
        Check.state(x, "not lost any more", () -> x.rebuild(0, 0));
    }

    // ---- promises 22 and 28: ofSecret, wouldLose

    @Says(promise = 22, text = "0 which STEP it NEEDS, 1 its KEY (NONE), 2 1 if LOST, otherwise 0, "
        + "3 1 if there is a COPY, otherwise 0")
    private static void ofSecretTellsItself() {
        Iemotohall x = copied();
        x.secret(1, 0, 0);
        int[] copied = {1, -1, 0, 1};
        int[] plain = {0, 0, 0, 0};
        for (int what = 0; what <= 3; what++) {
            Check.is("ofSecret(0, " + what + ")", x.ofSecret(0, what), copied[what]);
            Check.is("ofSecret(1, " + what + ")", x.ofSecret(1, what), plain[what]);
        }
        x.die(1);
        Check.is("lost, with a copy", x.ofSecret(0, 2), 1);
        Check.is("lost, without one", x.ofSecret(1, 2), 1);
    }

    @Says(promise = 22, text = "4 how many living PEOPLE have READ it, 5 how many of these UNDERSTAND it")
    private static void ofSecretTellsReaders() {
        Iemotohall x = Halls.flat(4);
        x.secret(0, 0, -1);
        x.secret(0, 0, 0);
        x.read(1, 0);
        x.read(1, 1);
        x.read(2, 1);
        Check.is("readers", x.ofSecret(1, 4), 3);
        Check.is("of them understand it", x.ofSecret(1, 5), 2);
        x.die(1);
        Check.is("living readers", x.ofSecret(1, 4), 2);
        Check.is("of them understand it", x.ofSecret(1, 5), 1);
        Halls.bury(x, 0, 2);
        Check.is("readers of a lost one", x.ofSecret(1, 4), 0);
        Check.is("of them understand it", x.ofSecret(1, 5), 0);
    }

    @Says(promise = 22, text = "6 how many living PEOPLE may READ it yet (hold the STEP, have not READ it; "
        + "0, if it is LOST)")
    private static void ofSecretTellsWhoMayRead() {
        Iemotohall x = copied();
        x.secret(1, 0, -1);
        Check.is("with just the step, or more", x.ofSecret(0, 6), 2);
        Check.is("with any step", x.ofSecret(1, 6), 2);
        x.person(0, -1);
        Check.is("with just the step, or more, still", x.ofSecret(0, 6), 2);
        Check.is("with any step, one more", x.ofSecret(1, 6), 3);
        x.read(2, 1);
        Check.is("one has read it", x.ofSecret(1, 6), 2);
        x.die(3);
        Check.is("one is dead", x.ofSecret(1, 6), 1);
        x.revoke(2, 1);
        Check.is("one holds the step no more", x.ofSecret(0, 6), 1);
        x.die(1);
        Check.is("lost", x.ofSecret(0, 6), 0);
    }

    @Says(promise = 22, text = "there is no such SECRET")
    private static void ofNoSuchSecret() {
        Iemotohall x = Halls.flat(1);
        Check.index(x, "ofSecret(0, 0), without any", () -> x.ofSecret(0, 0));
        x.secret(0, 0, -1);
        Check.indexOutside(x, "ofSecret", 0, 0, s -> x.ofSecret(s, 0));
        Check.index(x, "ofSecret(1, 7)", () -> x.ofSecret(1, 7));
        for (int s = 1; s < 8; s++) {
            x.secret(0, 0, -1);
        }
        Check.indexOutside(x, "ofSecret", 0, 7, s -> x.ofSecret(s, 0));
    }

    @Says(promise = 22, text = "what is not 0 to 6")
    private static void ofSecretWhat() {
        Iemotohall x = Halls.flat(1);
        x.secret(0, 0, -1);
        Check.argumentOutside(x, "what", 0, 6, what -> x.ofSecret(0, what));
    }

    @Says(promise = 28, text = "Returns the set of SECRETS that are not LOST, and would be, if that DIED now "
        + "(0, if it is dead).")
    private static void whatWouldBeLost() {
        Iemotohall x = Halls.flat(4);
        for (int s = 0; s < 8; s++) {
            x.secret(1, 0, -1);
        }
        x.read(2, 3);
        Check.is("of all but one", x.wouldLose(1), 255 - 8);
        Check.is("of one that is not the only reader", x.wouldLose(2), 0);
        Check.is("of one that has read nothing", x.wouldLose(3), 0);
        Check.is("nothing is lost by that", x.many(5), 0);
        x.die(1);
        Check.is("of a dead one", x.wouldLose(1), 0);
        Check.is("of the only reader now", x.wouldLose(2), 8);
        x.die(2);
        Check.is("of the last reader, dead", x.wouldLose(2), 0);
        Check.is("those that are lost", x.many(5), 8);
    }

    @Says(promise = 28, text = "there is no such PERSON")
    private static void wouldLoseOfNoSuchPerson() {
        Iemotohall x = Halls.flat(2);
        Check.indexOutside(x, "wouldLose", 0, 1, x::wouldLose);
    }
}
