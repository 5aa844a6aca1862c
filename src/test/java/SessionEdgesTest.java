/** Part III, sentence by sentence: sessions, what is sent in them, what is taken. */
public final class SessionEdgesTest {
    private static final int NONE = SealedHouse.NONE;

    private SessionEdgesTest() {
    }

    public static void main(String[] args) {
        twoSessionsByBegin();
        twoSessionsByTaking();
        leftKeysGoWithTheirSession();
        aSessionComesNew();
        oneThatComesIsTheFirst();
        oneThatTakesIsTheFirst();
        beforeBecomesN();
        sendNeedsNoTurnTwice();
        bearsUntilItTakes();
        toIsNotD();
        fromIsD();
        prekeyIsNothing();
        prekeyOfNeither();
        onceOfNone();
        onceIsSpentByTaking();
        leftKeyGoes();
        leftKeyNeedsKeyAndIndex();
        ofSeveralTheOldest();
        skipsFive();
        skipsNone();
        skipsToBefore();
        skipsToBeforeAndToN();
        beforeIsNotAboveNext();
        beforeWithoutReceive();
        indexBelowNext();
        theLastIndex();
        nineLeftKeys();
        sameKeyNoTurn();
        keyIsTheirsWithoutReceive();
        wrongKey();
        wrongKeyComesAheadOfWrongBody();
        wrongBody();
        refusedMakesNoSession();
        giftAbove();
        giftOfThree();
        giftOfTheLastGeneration();
        deliverRefused();
        injectRefused();
        Check.end();
    }

    private static void emptyPlaces(SealedHouse x, int d) {
        for (int place = 1; place < 5; place++) {
            x.plant(d, place, -1);
        }
    }

    /** Device 0 sends device 1 this many letters: wires 0 and on. */
    private static Twins sent(int letters) {
        Twins t = Twins.published(2);
        for (int w = 0; w < letters; w++) {
            t.due("send", x -> x.send(0, 1), w);
        }
        return t;
    }

    private static void sessionIs(Twins t, int d, int p, int... due) {
        for (int what = 0; what < due.length; what++) {
            int asked = what;
            t.due("session of " + d + ", what " + what, x -> x.session(d, p, 0, asked), due[what]);
        }
    }

    /** "at most two with another device (when a third one comes the last one goes)" */
    private static void twoSessionsByBegin() {
        Twins t = Twins.published(2);
        for (int i = 1; i <= 3; i++) {
            int w = i - 1;
            t.due("begin", x -> x.begin(0, 1), Math.min(i, 2));
            t.due("send", x -> x.send(0, 1), w);
        }
        t.due("a second one", x -> x.session(0, 1, 1, 0), 1);
        t.refused("no third", x -> x.session(0, 1, 2, 0), NONE);
        t.due("entries", x -> x.device(0, 4), 6 + 2 * 6);
        t.due("deliver", x -> x.deliver(1, 0), 1);
        t.due("answer", x -> x.send(1, 0), 3);
        t.refused("its session went", x -> x.deliver(0, 3), -12);
        t.due("with others too", x -> x.begin(2, 1), 1);
        t.end();
    }

    private static void twoSessionsByTaking() {
        Twins t = Twins.published(2);
        for (int w = 0; w < 3; w++) {
            int wire = w;
            t.run(x -> x.begin(0, 1));
            t.due("send", x -> x.send(0, 1), 2 * w);
            t.due("send", x -> x.send(0, 1), 2 * w + 1);
            t.due("deliver", x -> x.deliver(1, 2 * wire), 1);
            t.due("N of the last one", x -> x.session(1, 0, Math.min(wire, 1), 2), 1);
            t.refused("no third", x -> x.session(1, 0, 2, 0), NONE);
        }
        t.due("two at most", x -> x.session(1, 0, 1, 2), 1);
        t.refused("the last one went", x -> x.deliver(1, 1), -12);
        t.due("the second one is there", x -> x.deliver(1, 3), 1);
        t.due("the first one is there", x -> x.deliver(1, 5), 1);
        t.end();
    }

    private static void leftKeysGoWithTheirSession() {
        Twins t = Twins.published(2);
        for (int w = 0; w < 4; w++) {
            t.due("send", x -> x.send(0, 1), w);
        }
        t.due("three are left", x -> x.deliver(1, 3), 1);
        for (int w = 4; w < 6; w++) {
            int wire = w;
            t.run(x -> x.begin(0, 1));
            t.due("send", x -> x.send(0, 1), w);
            t.due("deliver", x -> x.deliver(1, wire), 1);
            sessionIs(t, 1, 0, 0, 0, 1, 0, 0, 0, 1);
        }
        t.due("none are left", x -> x.session(1, 0, 1, 3), 0);
        t.refused("their session went", x -> x.deliver(1, 0), -12);
        t.end();
    }

    /** "ROOT is c, MINE the PREKEY, THEIRS, SEND, RECEIVE NOTHING, N, BEFORE, NEXT 0 .." */
    private static void aSessionComesNew() {
        Twins t = Twins.published(2);
        t.due("send", x -> x.send(1, 0), 0);
        t.due("send", x -> x.send(1, 0), 1);
        t.due("deliver", x -> x.deliver(0, 0), 1);
        t.due("answer", x -> x.send(0, 1), 2);
        t.due("deliver", x -> x.deliver(1, 2), 1);
        t.due("send", x -> x.send(1, 0), 3);
        sessionIs(t, 1, 0, 1, 2, 1, 0, 0, 1, 1);
        t.due("another one", x -> x.begin(1, 0), 2);
        t.due("send", x -> x.send(1, 0), 4);
        sessionIs(t, 1, 0, 1, 0, 0, 0, 1, 1, 0);
        for (int w = 5; w < 7; w++) {
            int wire = w;
            t.run(x -> x.begin(0, 1));
            t.due("send", x -> x.send(0, 1), w);
            t.due("one comes, the last one goes", x -> x.deliver(1, wire), 1);
            sessionIs(t, 1, 0, 0, 0, 1, 0, 0, 0, 1);
        }
        t.end();
    }

    /** "in an order: one that comes, or in which a wire is taken, is the first" */
    private static void oneThatComesIsTheFirst() {
        Twins t = sent(3);
        t.due("another one", x -> x.begin(0, 1), 2);
        sessionIs(t, 0, 1, 0);
        t.due("send goes by it", x -> x.send(0, 1), 3);
        sessionIs(t, 0, 1, 1);
        t.due("the other one", x -> x.session(0, 1, 1, 0), 3);
        t.due("deliver", x -> x.deliver(1, 0), 1);
        t.due("deliver, another one", x -> x.deliver(1, 3), 1);
        t.due("1 answers by it", x -> x.send(1, 0), 4);
        sessionIs(t, 1, 0, 1, 0, 1);
        t.end();
    }

    private static void oneThatTakesIsTheFirst() {
        Twins t = sent(2);
        t.run(x -> x.begin(0, 1));
        t.due("send", x -> x.send(0, 1), 2);
        t.due("deliver", x -> x.deliver(1, 0), 1);
        t.due("deliver", x -> x.deliver(1, 2), 1);
        t.due("NEXT of the first", x -> x.session(1, 0, 0, 2), 1);
        t.refused("what is refused", x -> x.deliver(1, 0), -13);
        t.due("deliver", x -> x.deliver(1, 1), 1);
        t.due("NEXT of the first", x -> x.session(1, 0, 0, 2), 2);
        t.due("NEXT of the second", x -> x.session(1, 0, 1, 2), 1);
        t.due("answer", x -> x.send(1, 0), 3);
        t.due("the second one of 0", x -> x.session(0, 1, 1, 6), 0);
        t.due("deliver", x -> x.deliver(0, 3), 1);
        t.due("is the first now", x -> x.session(0, 1, 0, 6), 1);
        t.end();
    }

    /** "if SEND is NOTHING: BEFORE becomes N, N 0, MINE a SECRET drawn now" */
    private static void beforeBecomesN() {
        Twins t = sent(3);
        t.due("deliver", x -> x.deliver(1, 2), 1);
        sessionIs(t, 1, 0, 0, 0, 3, 2, 0, 0, 1);
        t.run(x -> {
            int draws = x.count(2);
            Check.due("send", x.send(1, 0), 3);
            Check.due("MINE and a letter", x.count(2) - draws, 2);
        });
        sessionIs(t, 1, 0, 1, 0, 3, 2, 0, 1, 1);
        t.due("deliver", x -> x.deliver(0, 3), 1);
        sessionIs(t, 0, 1, 3, 0, 1, 0, 0, 0, 1);
        t.due("send", x -> x.send(0, 1), 4);
        sessionIs(t, 0, 1, 1, 3, 1, 0, 0, 1, 1);
        t.run(x -> x.take(0, 0, 4));
        t.run(x -> x.part(0, 0, 4));
        t.due("N in the head", x -> x.about(0, 4), 0);
        t.due("BEFORE in the head", x -> x.about(0, 5), 3);
        t.end();
    }

    private static void sendNeedsNoTurnTwice() {
        Twins t = sent(1);
        t.due("deliver", x -> x.deliver(1, 0), 1);
        t.due("send", x -> x.send(1, 0), 1);
        t.run(x -> {
            int draws = x.count(2);
            Check.due("send", x.send(1, 0), 2);
            Check.due("a letter alone", x.count(2) - draws, 1);
        });
        sessionIs(t, 1, 0, 2, 0);
        for (int w = 1; w <= 2; w++) {
            int wire = w;
            t.run(x -> x.take(wire, 0, wire));
            t.run(x -> x.part(wire, wire, 4));
            t.run(x -> x.part(wire, wire, 1));
        }
        t.due("the same KEY", x -> x.same(1, 2), 1);
        t.end();
    }

    /** "what it BEARS, NOTHING twice if nothing" and "BEARS nothing any more" */
    private static void bearsUntilItTakes() {
        Twins t = sent(2);
        t.due("it BEARS", x -> x.session(0, 1, 0, 4), 1);
        t.due("deliver", x -> x.deliver(1, 0), 1);
        t.due("the one that was made does not", x -> x.session(1, 0, 0, 4), 0);
        t.due("answer", x -> x.send(1, 0), 2);
        t.due("still", x -> x.session(0, 1, 0, 4), 1);
        t.due("deliver", x -> x.deliver(0, 2), 1);
        t.due("no more", x -> x.session(0, 1, 0, 4), 0);
        t.due("send", x -> x.send(0, 1), 3);
        int[] parts = {1, 1, NONE, NONE};
        for (int w = 1; w <= 3; w++) {
            int wire = w;
            t.run(x -> x.take(1, 0, wire));
            t.run(x -> x.part(1, 1, 4));
            for (int k = 0; k < 4; k++) {
                int at = k;
                t.due("wire " + w, x -> x.part(2, 1, at), w == 1 ? 1 : parts[k]);
            }
        }
        t.end();
    }

    /** "(-11) if to is not d, or from is" */
    private static void toIsNotD() {
        Twins t = sent(1);
        for (int d = 2; d < 6; d++) {
            int who = d;
            t.refused("to " + d, x -> x.deliver(who, 0), -11);
        }
        t.refused("to the sender", x -> x.deliver(0, 0), -11);
        t.due("to 1", x -> x.deliver(1, 0), 1);
        t.end();
    }

    private static void fromIsD() {
        Twins t = Twins.published(2);
        t.run(x -> Forge.begin(x, 1, 1, 0));
        t.run(x -> Forge.firstLetter(x, 1, 1, false));
        t.refused("from itself", x -> x.inject(1, Forge.MADE), -11);
        t.end();
    }

    /** "(-12) if PREKEY is NOTHING" */
    private static void prekeyIsNothing() {
        Twins t = Twins.published(2);
        t.run(x -> Forge.begin(x, 0, 1, 0));
        t.run(x -> Forge.firstLetter(x, 0, 1, false));
        t.run(x -> {
            x.swap(Forge.HEAD, Forge.HEAD, 2, -1);
            Forge.seal(x);
        });
        t.refused("PREKEY is NOTHING", x -> x.inject(1, Forge.MADE), -12);
        t.run(x -> {
            Forge.bears(x, false);
            Forge.seal(x);
        });
        t.due("PREKEY", x -> x.inject(1, Forge.MADE), 1);
        t.end();
    }

    /** "or PUBLIC of neither of d's PREKEYS" */
    private static void prekeyOfNeither() {
        Twins t = Twins.published(2);
        t.run(x -> Forge.begin(x, 0, 1, 0));
        t.run(x -> Forge.announced(x, 0, 1, 1));
        t.run(x -> x.take(1, 2, 1));
        for (int r = 0; r < 2; r++) {
            int other = r;
            t.run(x -> {
                Forge.firstLetter(x, 0, 1, false);
                x.swap(Forge.HEAD, Forge.HEAD, 2, other);
                Forge.seal(x);
            });
            t.refused("of a ONE-TIME key, of the IDENTITY", x -> x.inject(1, Forge.MADE), -12);
        }
        t.end();
    }

    /** "or ONCE is not NOTHING, and PUBLIC of none of its ONE-TIME keys" */
    private static void onceOfNone() {
        Twins t = Twins.published(3);
        t.run(x -> Forge.begin(x, 0, 1, 1));
        t.run(x -> Forge.announced(x, 0, 2, 1));
        t.run(x -> Forge.announced(x, 1, 1, 0));
        for (int r = 0; r < 2; r++) {
            int other = r;
            t.run(x -> {
                x.draw(18);
                Forge.turn(x, 18);
                Forge.key(x, 0);
                Forge.head(x, 0, 1, 0, 0);
                Forge.bears(x, true);
                x.swap(Forge.HEAD, Forge.HEAD, 3, other);
                Forge.letter(x);
                Forge.seal(x);
            });
            t.refused("of another device, of the PREKEY", x -> x.inject(1, Forge.MADE), -12);
        }
        t.end();
    }

    /** "of a session that was made the ONE-TIME key goes" */
    private static void onceIsSpentByTaking() {
        Twins t = Twins.published(2);
        t.run(x -> x.take(0, 1, 6));
        t.due("send", x -> x.send(0, 1), 0);
        t.due("the same key once more", x -> x.plant(1, 1, 0), 1);
        t.due("send", x -> x.send(2, 1), 1);
        t.due("four", x -> x.device(1, 2), 4);
        t.due("deliver", x -> x.deliver(1, 0), 1);
        t.due("it goes", x -> x.device(1, 2), 3);
        t.due("no BASE", x -> x.device(1, 3), 0);
        t.refused("it is not there", x -> x.deliver(1, 1), -12);
        t.end();
    }

    /** "if a LEFT key has KEY and N, that is the key, and it goes" */
    private static void leftKeyGoes() {
        Twins t = sent(3);
        t.due("two ahead", x -> x.deliver(1, 2), 1);
        sessionIs(t, 1, 0, 0, 0, 3, 2);
        t.due("a LEFT key", x -> x.deliver(1, 1), 1);
        sessionIs(t, 1, 0, 0, 0, 3, 1);
        t.refused("it went", x -> x.deliver(1, 1), -13);
        t.due("the other one", x -> x.deliver(1, 0), 1);
        sessionIs(t, 1, 0, 0, 0, 3, 0);
        t.refused("it went", x -> x.deliver(1, 0), -13);
        t.end();
    }

    private static void leftKeyNeedsKeyAndIndex() {
        Twins t = Twins.published(2);
        t.run(x -> Forge.begin(x, 0, 1, 0));
        t.run(x -> Forge.firstLetter(x, 0, 1, false));
        t.run(x -> at(x, 2, 0));
        t.due("index 2", x -> x.inject(1, Forge.MADE), 1);
        t.run(x -> {
            Forge.key(x, 1);
            Forge.head(x, 0, 1, 0, 0);
            Forge.bears(x, false);
            Forge.seal(x);
        });
        t.refused("the key of another index", x -> x.inject(1, Forge.MADE), -14);
        t.run(x -> at(x, 0, 0));
        t.run(x -> {
            x.draw(0);
            x.make(0, 10, 0, -1);
            x.swap(Forge.HEAD, Forge.HEAD, 1, 0);
            Forge.seal(x);
        });
        t.refused("another KEY", x -> x.inject(1, Forge.MADE), -14);
        t.run(x -> at(x, 0, 0));
        t.due("both", x -> x.inject(1, Forge.MADE), 1);
        t.end();
    }

    /** The wire at an index of the present chain, behind Forge.firstLetter. */
    private static void at(SealedHouse x, int index, int before) {
        Forge.key(x, index);
        Forge.head(x, 0, 1, index, before);
        Forge.bears(x, false);
        Forge.seal(x);
    }

    /** "(of several the oldest)": the chain of one KEY comes twice, and leaves index 0 twice. */
    private static void ofSeveralTheOldest() {
        Twins t = Twins.published(2);
        t.run(x -> Forge.begin(x, 0, 1, 0));
        t.run(x -> {
            x.draw(0);
            x.draw(1);
            Forge.turn(x, 0);
            Forge.letter(x);
            at(x, 0, 0);
            x.make(2, 6, Forge.CHAIN, -1);
            at(x, 1, 0);
        });
        t.due("index 0 is left", x -> x.inject(1, Forge.MADE), 1);
        t.run(x -> {
            Forge.turn(x, 1);
            at(x, 0, 0);
        });
        t.due("another KEY", x -> x.inject(1, Forge.MADE), 1);
        t.run(x -> {
            Forge.turn(x, 0);
            x.make(3, 6, Forge.CHAIN, -1);
            at(x, 1, 0);
        });
        t.due("index 0 is left again", x -> x.inject(1, Forge.MADE), 1);
        sessionIs(t, 1, 0, 0, 0, 2, 2);
        t.run(x -> at(x, 0, 0));
        t.refused("the younger one", x -> x.inject(1, Forge.MADE), -14);
        t.run(x -> x.seal(Forge.MADE, 2, Forge.HEAD, Forge.BODY));
        t.due("the oldest", x -> x.inject(1, Forge.MADE), 1);
        t.refused("it went", x -> x.inject(1, Forge.MADE), -14);
        t.run(x -> x.seal(Forge.MADE, 3, Forge.HEAD, Forge.BODY));
        t.due("then the younger one", x -> x.inject(1, Forge.MADE), 1);
        sessionIs(t, 1, 0, 0, 0, 2, 0);
        t.refused("both went", x -> x.inject(1, Forge.MADE), -13);
        t.end();
    }

    /** "TO SKIP to an index i: (-13) if that is more than 5 above NEXT" */
    private static void skipsFive() {
        Twins t = sent(13);
        t.refused("six above 0", x -> x.deliver(1, 6), -13);
        t.refused("many above 0", x -> x.deliver(1, 12), -13);
        t.due("five above 0", x -> x.deliver(1, 5), 1);
        sessionIs(t, 1, 0, 0, 0, 6, 5);
        t.refused("six above 6", x -> x.deliver(1, 12), -13);
        t.due("five above 6", x -> x.deliver(1, 11), 1);
        sessionIs(t, 1, 0, 0, 0, 12, 8);
        t.end();
    }

    private static void skipsNone() {
        Twins t = sent(3);
        for (int w = 0; w < 3; w++) {
            int wire = w;
            t.due("the next", x -> x.deliver(1, wire), 1);
            sessionIs(t, 1, 0, 0, 0, w + 1, 0);
        }
        t.end();
    }

    /** Device 1 took one of so many, answered, and device 0 went on with another chain. */
    private static Twins turned(int before) {
        Twins t = sent(before);
        t.due("deliver", x -> x.deliver(1, 0), 1);
        t.due("answer", x -> x.send(1, 0), before);
        t.due("deliver", x -> x.deliver(0, before), 1);
        for (int i = 1; i <= 7; i++) {
            t.due("send", x -> x.send(0, 1), before + i);
        }
        return t;
    }

    /** "if there is a RECEIVE and BEFORE is above NEXT, it SKIPS to BEFORE" */
    private static void skipsToBefore() {
        Twins t = turned(6);
        t.due("BEFORE five above NEXT", x -> x.deliver(1, 7), 1);
        sessionIs(t, 1, 0, 1, 0, 1, 5, 0, 0, 1);
        for (int w = 1; w < 6; w++) {
            int wire = w;
            t.due("of the chain before", x -> x.deliver(1, wire), 1);
        }
        sessionIs(t, 1, 0, 1, 0, 1, 0);
        t.end();
        Twins u = turned(7);
        u.refused("BEFORE six above NEXT", x -> x.deliver(1, 8), -13);
        u.refused("that comes ahead of N", x -> x.deliver(1, 9), -13);
        u.refused("that comes ahead of N", x -> x.deliver(1, 14), -13);
        u.due("one more of the chain before", x -> x.deliver(1, 1), 1);
        u.due("BEFORE five above NEXT", x -> x.deliver(1, 8), 1);
        sessionIs(u, 1, 0, 1, 0, 1, 5);
        u.end();
    }

    private static void skipsToBeforeAndToN() {
        Twins t = turned(6);
        t.refused("five, then six", x -> x.deliver(1, 13), -13);
        t.due("five, then five", x -> x.deliver(1, 12), 1);
        sessionIs(t, 1, 0, 1, 0, 6, 8);
        // their KEY is not THEIRS any more, so that it is tried to turn to it
        t.refused("of ten the two oldest went", x -> x.deliver(1, 1), -14);
        t.refused("of ten the two oldest went", x -> x.deliver(1, 2), -14);
        for (int w : new int[] {3, 4, 5, 7, 8, 9, 10, 11}) {
            t.due("left", x -> x.deliver(1, w), 1);
        }
        sessionIs(t, 1, 0, 1, 0, 6, 0);
        t.end();
    }

    private static void beforeIsNotAboveNext() {
        Twins t = turned(1);
        t.due("BEFORE is NEXT", x -> x.deliver(1, 2), 1);
        sessionIs(t, 1, 0, 1, 0, 1, 0);
        t.end();
        Twins u = Twins.published(2);
        u.run(x -> Forge.begin(x, 0, 1, 0));
        u.run(x -> Forge.firstLetter(x, 0, 1, false));
        u.due("index 0", x -> x.inject(1, Forge.MADE), 1);
        u.run(x -> at(x, 1, 0));
        u.due("index 1", x -> x.inject(1, Forge.MADE), 1);
        u.run(x -> {
            x.draw(0);
            Forge.turn(x, 0);
            at(x, 0, 1);
        });
        u.due("BEFORE is below NEXT", x -> x.inject(1, Forge.MADE), 1);
        sessionIs(u, 1, 0, 0, 0, 1, 0);
        u.end();
    }

    private static void beforeWithoutReceive() {
        Twins t = Twins.published(2);
        t.run(x -> Forge.begin(x, 0, 1, 0));
        t.run(x -> Forge.firstLetter(x, 0, 1, false));
        t.run(x -> at(x, 0, 9_999));
        t.due("there is no RECEIVE", x -> x.inject(1, Forge.MADE), 1);
        sessionIs(t, 1, 0, 0, 0, 1, 0, 0, 0, 1);
        t.run(x -> at(x, 1, 9_999));
        t.due("no other KEY", x -> x.inject(1, Forge.MADE), 1);
        t.run(x -> {
            x.draw(0);
            Forge.turn(x, 0);
            at(x, 0, 8);
        });
        t.refused("BEFORE six above NEXT", x -> x.inject(1, Forge.MADE), -13);
        t.run(x -> at(x, 0, 7));
        t.due("BEFORE five above NEXT", x -> x.inject(1, Forge.MADE), 1);
        sessionIs(t, 1, 0, 0, 0, 1, 5, 0, 0, 1);
        t.end();
    }

    /** "Then (-13) if N is below NEXT" */
    private static void indexBelowNext() {
        Twins t = sent(3);
        t.due("deliver", x -> x.deliver(1, 0), 1);
        t.refused("one below", x -> x.deliver(1, 0), -13);
        t.due("deliver", x -> x.deliver(1, 1), 1);
        t.refused("two below", x -> x.deliver(1, 0), -13);
        t.refused("one below", x -> x.deliver(1, 1), -13);
        t.due("not below", x -> x.deliver(1, 2), 1);
        t.end();
    }

    private static void theLastIndex() {
        Twins t = Twins.published(2);
        t.run(x -> Forge.begin(x, 0, 1, 0));
        t.run(x -> Forge.firstLetter(x, 0, 1, false));
        t.run(x -> {
            x.alter(Forge.HEAD, Forge.HEAD, 2, 9_999);
            Forge.seal(x);
        });
        t.refused("a GOOD ROW, but out of reach", x -> x.inject(1, Forge.MADE), -13);
        t.run(x -> {
            x.alter(Forge.HEAD, Forge.HEAD, 2, 10_000);
            Forge.seal(x);
        });
        t.refused("no GOOD ROW", x -> x.inject(1, Forge.MADE), -10);
        t.end();
    }

    /** "are one more LEFT key (the oldest one goes if there are nine)" */
    private static void nineLeftKeys() {
        Twins t = sent(12);
        t.due("five are left", x -> x.deliver(1, 5), 1);
        t.due("three more", x -> x.deliver(1, 9), 1);
        sessionIs(t, 1, 0, 0, 0, 10, 8);
        t.due("the next leaves none", x -> x.deliver(1, 10), 1);
        sessionIs(t, 1, 0, 0, 0, 11, 8);
        t.due("the oldest of eight", x -> x.deliver(1, 0), 1);
        sessionIs(t, 1, 0, 0, 0, 11, 7);
        t.end();
        Twins u = sent(12);
        u.due("five are left", x -> x.deliver(1, 5), 1);
        u.due("four more", x -> x.deliver(1, 10), 1);
        sessionIs(u, 1, 0, 0, 0, 11, 8);
        u.refused("the oldest of nine went", x -> x.deliver(1, 0), -13);
        u.due("the second one did not", x -> x.deliver(1, 1), 1);
        u.due("nor did the last one", x -> x.deliver(1, 9), 1);
        u.end();
    }

    /** "if KEY is not THEIRS, or RECEIVE is NOTHING" */
    private static void sameKeyNoTurn() {
        Twins t = sent(2);
        t.due("deliver", x -> x.deliver(1, 0), 1);
        t.due("answer", x -> x.send(1, 0), 2);
        sessionIs(t, 1, 0, 1, 0, 1, 0, 0, 1, 1);
        t.due("the same KEY", x -> x.deliver(1, 1), 1);
        sessionIs(t, 1, 0, 1, 0, 2, 0, 0, 1, 1);
        t.due("deliver", x -> x.deliver(0, 2), 1);
        t.due("send", x -> x.send(0, 1), 3);
        t.due("another KEY", x -> x.deliver(1, 3), 1);
        sessionIs(t, 1, 0, 1, 0, 1, 0, 0, 0, 1);
        t.end();
    }

    private static void keyIsTheirsWithoutReceive() {
        // device 0 begins by a PREKEY of device 1 that the attacker drew, and so has all of
        Twins t = Twins.published(2);
        t.run(x -> {
            Forge.identity(x, 1);
            x.draw(0);
            x.make(1, 10, 0, -1);
            Forge.row(x, 2, 1, 1, 1, 0, 0);
            x.swap(2, 2, 0, 1);
            x.make(3, 12, Forge.IDENTITY, 2);
            x.plant(1, 0, 3);
            emptyPlaces(x, 1);
        });
        t.due("send", x -> x.send(0, 1), 0);
        t.run(x -> {
            x.take(4, 0, 0);
            x.part(4, 4, 4);
            x.part(Forge.BASE, 4, 0);
            x.part(5, 4, 1);
            // c, from the side of device 1
            x.take(6, 2, 0);
            x.make(7, 11, 0, 6);
            x.make(8, 11, Forge.IDENTITY, Forge.BASE);
            x.make(7, 0, 7, 8);
            x.make(8, 11, 0, Forge.BASE);
            x.make(7, 1, 7, 8);
            x.make(7, 3, 7, -1);
            x.make(8, 11, 0, 5);
            x.make(7, 4, 7, 8);
            // a chain of THEIRS itself
            x.make(Forge.CHAIN, 5, 7, 8);
            x.make(Forge.KEY_PUBLIC, 10, 0, -1);
            Forge.key(x, 0);
            Forge.head(x, 1, 0, 0, 0);
            Forge.letter(x);
            Forge.seal(x);
        });
        sessionIs(t, 0, 1, 1, 0, 0, 0, 1, 1, 0);
        t.due("KEY is THEIRS, RECEIVE is NOTHING", x -> x.inject(0, Forge.MADE), 1);
        sessionIs(t, 0, 1, 1, 0, 1, 0, 0, 0, 1);
        t.end();
    }

    /** "(-14) if k is not that key" */
    private static void wrongKey() {
        Twins t = sent(3);
        t.due("deliver", x -> x.deliver(1, 1), 1);
        t.run(x -> {
            x.take(0, 0, 2);
            x.part(1, 0, 4);
            x.draw(2);
            x.take(3, 0, 0);
            x.part(3, 3, 4);
            x.seal(4, 2, 1, 1);
            x.seal(5, 2, 3, 3);
            x.alter(6, 1, 2, 7);
            x.seal(6, 2, 6, 6);
        });
        t.refused("the next index", x -> x.inject(1, 4), -14);
        t.refused("a LEFT key's index", x -> x.inject(1, 5), -14);
        t.refused("five ahead", x -> x.inject(1, 6), -14);
        t.due("the true one", x -> x.deliver(1, 2), 1);
        t.due("and the one left", x -> x.deliver(1, 0), 1);
        t.end();
    }

    private static void wrongKeyComesAheadOfWrongBody() {
        Twins t = Twins.published(2);
        t.run(x -> Forge.begin(x, 0, 1, 0));
        t.run(x -> Forge.firstLetter(x, 0, 1, false));
        t.run(x -> x.seal(0, Forge.HEAD, Forge.HEAD, Forge.HEAD));
        t.refused("neither key nor body", x -> x.inject(1, 0), -14);
        t.run(x -> x.seal(0, Forge.KEY, Forge.HEAD, Forge.HEAD));
        t.refused("the key, but no body", x -> x.inject(1, 0), -15);
        t.due("both", x -> x.inject(1, Forge.MADE), 1);
        t.end();
    }

    /** "(-15) if b is no GOOD ROW 4 or 5" */
    private static void wrongBody() {
        Twins t = Twins.published(2);
        t.run(x -> Forge.begin(x, 0, 1, 1));
        t.run(x -> Forge.firstLetter(x, 0, 1, true));
        t.run(x -> x.alter(0, Forge.BODY, 0, 1));
        t.run(x -> x.seal(1, Forge.KEY, Forge.HEAD, 0));
        t.refused("ROW 4 with a number", x -> x.inject(1, 1), -15);
        t.due("ONE-TIME keys", x -> x.device(1, 2), 4);
        t.run(x -> Forge.row(x, 0, 6, 0, 1, 1, 0));
        t.run(x -> x.seal(1, Forge.KEY, Forge.HEAD, 0));
        t.refused("ROW 6", x -> x.inject(1, 1), -15);
        t.due("the letter", x -> x.inject(1, Forge.MADE), 1);
        t.due("ONE-TIME keys", x -> x.device(1, 2), 3);
        t.end();
    }

    /** "Otherwise it is taken: all that becomes so" - and only then */
    private static void refusedMakesNoSession() {
        Twins t = sent(8);
        t.refused("-13", x -> x.deliver(1, 7), -13);
        t.run(x -> {
            x.take(0, 0, 0);
            x.part(1, 0, 4);
            x.seal(2, 1, 1, 1);
        });
        t.refused("-14", x -> x.inject(1, 2), -14);
        t.refused("no session", x -> x.session(1, 0, 0, 0), NONE);
        t.due("ONE-TIME keys", x -> x.device(1, 2), 4);
        t.due("present half", x -> x.device(1, 6), 1);
        t.due("deliver", x -> x.deliver(1, 0), 1);
        t.due("ONE-TIME keys", x -> x.device(1, 2), 3);
        t.end();
    }

    /** A gift from device 0 to device 1, at an index of the session's chain in register 0. */
    private static void give(Twins t, int index, int generation, int giftIndex) {
        t.run(x -> {
            Forge.keyOf(x, 0, index);
            Forge.head(x, 0, 1, index, 0);
            x.draw(Forge.CHAIN);
            x.draw(Forge.SIGNER);
            Forge.gift(x, 2, generation, giftIndex);
            Forge.seal(x);
        });
        t.due("gift " + index, x -> x.inject(1, Forge.MADE), 2);
    }

    /** Device 1 took index 0 of a session from device 0, whose chain register 0 keeps. */
    private static Twins openSession() {
        Twins t = Twins.published(2);
        t.run(x -> Forge.begin(x, 0, 1, 0));
        t.run(x -> Forge.firstLetter(x, 0, 1, false));
        t.due("a session", x -> x.inject(1, Forge.MADE), 1);
        t.run(x -> Forge.copy(x, 0, Forge.CHAIN));
        return t;
    }

    private static void givenIs(Twins t, int keys, int generation, int next) {
        t.due("keys", x -> x.group(1, 2, 10), keys);
        t.due("generation", x -> x.group(1, 2, 20), generation);
        t.due("NEXT", x -> x.group(1, 2, 30), next);
    }

    /** "if its generation is above those that d has of from in this group, it is one more" */
    private static void giftAbove() {
        Twins t = openSession();
        t.due("none yet", x -> x.group(1, 2, 10), 0);
        give(t, 1, 5, 0);
        givenIs(t, 1, 5, 0);
        give(t, 2, 5, 7);
        givenIs(t, 1, 5, 0);
        give(t, 3, 4, 7);
        givenIs(t, 1, 5, 0);
        give(t, 4, 6, 9_999);
        givenIs(t, 2, 6, 9_999);
        give(t, 5, 5, 3);
        givenIs(t, 2, 6, 9_999);
        give(t, 6, 6, 3);
        givenIs(t, 2, 6, 9_999);
        t.due("all of them were taken", x -> x.session(1, 0, 0, 2), 7);
        t.due("no letter", x -> x.taken(1, 3), 1);
        t.end();
    }

    /** "(the first; of three the last one goes)" */
    private static void giftOfThree() {
        Twins t = openSession();
        give(t, 1, 1, 10);
        givenIs(t, 1, 1, 10);
        give(t, 2, 2, 20);
        givenIs(t, 2, 2, 20);
        t.due("entries", x -> x.device(1, 4), 6 + 1 + 5 + 2);
        give(t, 3, 3, 30);
        givenIs(t, 2, 3, 30);
        t.due("entries", x -> x.device(1, 4), 6 + 1 + 5 + 2);
        t.run(x -> Forge.identity(x, 2));
        t.run(x -> Forge.list(x, 2, 1, 7));
        t.due("a list", x -> x.inject(1, Forge.MADE), 3);
        for (int generation = 1; generation <= 3; generation++) {
            int of = generation;
            t.run(x -> {
                x.draw(Forge.SIGNER);
                Forge.post(x, 2, 0, of, 10 * of);
            });
            t.refused("generation " + of, x -> x.inject(1, Forge.MADE), of == 1 ? -17 : -14);
        }
        t.end();
    }

    private static void giftOfTheLastGeneration() {
        Twins t = openSession();
        give(t, 1, Integer.MAX_VALUE, 0);
        givenIs(t, 1, Integer.MAX_VALUE, 0);
        give(t, 2, 1, 1);
        givenIs(t, 1, Integer.MAX_VALUE, 0);
        give(t, 3, Integer.MAX_VALUE, 1);
        givenIs(t, 1, Integer.MAX_VALUE, 0);
        t.end();
    }

    private static void deliverRefused() {
        Twins t = sent(2);
        for (int d : new int[] {Integer.MIN_VALUE, -1, 6, Integer.MAX_VALUE}) {
            t.refused("no device", x -> x.deliver(d, 0), NONE);
        }
        for (int w : new int[] {Integer.MIN_VALUE, -1, 2, 699, 700, Integer.MAX_VALUE}) {
            t.refused("no wire", x -> x.deliver(1, w), NONE);
        }
        t.due("the last wire", x -> x.deliver(1, 1), 1);
        t.due("crash", x -> x.crash(1, 0), 1);
        t.due("cut", x -> x.deliver(1, 0), SealedHouse.CRASHED);
        t.refused("DOWN", x -> x.deliver(1, 0), SealedHouse.DOWN);
        t.refused("NONE comes ahead of DOWN", x -> x.deliver(1, 2), NONE);
        t.end();
    }

    private static void injectRefused() {
        Twins t = sent(1);
        t.run(x -> x.take(31, 0, 0));
        t.run(x -> x.draw(1));
        for (int r : new int[] {Integer.MIN_VALUE, -1, 0, 32, Integer.MAX_VALUE}) {
            t.refused("empty, no register", x -> x.inject(1, r), NONE);
        }
        for (int d : new int[] {-1, 6}) {
            t.refused("no device", x -> x.inject(d, 31), NONE);
        }
        t.refused("none of the forms", x -> x.inject(1, 1), -10);
        t.due("crash", x -> x.crash(1, 0), 1);
        t.due("cut", x -> x.inject(1, 31), SealedHouse.CRASHED);
        t.refused("DOWN comes ahead of -10", x -> x.inject(1, 1), SealedHouse.DOWN);
        t.refused("NONE comes ahead of DOWN", x -> x.inject(1, 0), NONE);
        t.due("up", x -> x.up(1), 1);
        t.due("the last register", x -> x.inject(1, 31), 1);
        t.end();
    }
}
