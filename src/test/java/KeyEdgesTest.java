/** Part II and TO BEGIN, sentence by sentence: keys, their numbers, the DIRECTORY. */
public final class KeyEdgesTest {
    private static final int NONE = SealedHouse.NONE;
    private static final int DOWN = SealedHouse.DOWN;

    private KeyEdgesTest() {
    }

    public static void main(String[] args) {
        oneIdentityEach();
        identityCannotBePlanted();
        onePrekeyNowAndOneBefore();
        noPrekeyAtFirst();
        fourBasesAtMost();
        fourBasesOfEachPrekey();
        aBaseComesOnce();
        basesGoWithTheirPrekey();
        oneTimeKeysUpToFour();
        numbersAsTheyAreDrawn();
        placesByNumbers();
        fivePlaces();
        nothingInThemAtFirst();
        publishRefused();
        beginNeedsPlaceZero();
        beginTakesTheFirstPlace();
        beginWithoutOnce();
        beginSpendsWhatIsNoGoodRow();
        beginMakesASession();
        beginRefused();
        Check.end();
    }

    private static void emptyPlaces(SealedHouse x, int d) {
        for (int place = 1; place < 5; place++) {
            x.plant(d, place, -1);
        }
    }

    /** "A DEVICE has an IDENTITY, a SECRET drawn at the beginning" */
    private static void oneIdentityEach() {
        SealedHouse x = new SealedHouse();
        Check.due("six DRAWS", x.count(2), 6);
        for (int d = 0; d < 6; d++) {
            Check.due("PUBLIC of it", x.take(d, 2, d), 1);
            Check.due("PUBLIC", x.about(d, 0), 2);
            Check.due("a look gives it", x.look(d), 1);
            x.take(10 + d, 3, 0);
            Check.due("SECRET", x.about(10 + d, 0), 1);
            x.make(20, 10, 10 + d, -1);
            Check.due("it is that", x.same(20, d), 1);
        }
        Check.due("no DRAWS since", x.count(2), 6);
    }

    /** "all devices know PUBLIC of it (it can't be planted)" */
    private static void identityCannotBePlanted() {
        SealedHouse x = new SealedHouse();
        x.publish(1);
        x.draw(0);
        for (int place = 0; place < 5; place++) {
            x.plant(0, place, 0);
            x.plant(1, place, place == 0 ? 1 : -1);
        }
        x.take(2, 2, 0);
        x.look(0);
        x.take(3, 3, 0);
        x.make(3, 10, 3, -1);
        Check.due("as before", x.same(2, 3), 1);
    }

    /** "a PREKEY now and one before" and "that one goes" */
    private static void onePrekeyNowAndOneBefore() {
        Twins t = Twins.published(1);
        t.due("none before", x -> x.device(0, 1), 0);
        for (int s = 1; s <= 3; s++) {
            int from = s;
            t.due("send", x -> x.send(from, 0), s - 1);
        }
        t.due("the PREKEY now", x -> x.deliver(0, 0), 1);
        t.due("publish", x -> x.publish(0), 6);
        t.due("now", x -> x.device(0, 0), 6);
        t.due("before", x -> x.device(0, 1), 1);
        t.due("the one before", x -> x.deliver(0, 1), 1);
        t.due("publish", x -> x.publish(0), 8);
        t.due("now", x -> x.device(0, 0), 8);
        t.due("before", x -> x.device(0, 1), 6);
        t.refused("the one before that went", x -> x.deliver(0, 2), -12);
        t.end();
    }

    /** "(0 each, if there is none)" */
    private static void noPrekeyAtFirst() {
        Twins t = Twins.published(2);
        t.run(x -> Forge.begin(x, 1, 0, 0));
        t.run(x -> Forge.firstLetter(x, 1, 2, false));
        t.due("none now", x -> x.device(2, 0), 0);
        t.due("none before", x -> x.device(2, 1), 0);
        t.refused("to a device without any", x -> x.inject(2, Forge.MADE), -12);
        t.end();
    }

    /** "a SECRET and a number each, with up to four BASES" and "or these are four" */
    private static void fourBasesAtMost() {
        Twins t = Twins.published(1);
        t.run(x -> emptyPlaces(x, 0));
        for (int s = 1; s <= 5; s++) {
            int from = s;
            t.due("send", x -> x.send(from, 0), s - 1);
        }
        for (int w = 0; w < 4; w++) {
            int wire = w;
            t.due("BASES", x -> x.device(0, 3), w);
            t.due("one more", x -> x.deliver(0, wire), 1);
        }
        t.due("BASES", x -> x.device(0, 3), 4);
        t.refused("these are four", x -> x.deliver(0, 4), -12);
        t.due("ONE-TIME keys are not touched", x -> x.device(0, 2), 4);
        t.due("a session that is there needs none", x -> x.send(1, 0), 5);
        t.due("deliver", x -> x.deliver(0, 5), 1);
        t.end();
    }

    private static void fourBasesOfEachPrekey() {
        Twins t = Twins.published(1);
        t.run(x -> emptyPlaces(x, 0));
        for (int s = 1; s <= 5; s++) {
            int from = s;
            t.due("send", x -> x.send(from, 0), s - 1);
        }
        for (int w = 0; w < 3; w++) {
            int wire = w;
            t.due("deliver", x -> x.deliver(0, wire), 1);
        }
        t.due("publish", x -> x.publish(0), 6);
        t.run(x -> emptyPlaces(x, 0));
        t.due("none of the PREKEY now", x -> x.device(0, 3), 0);
        for (int s = 1; s <= 5; s++) {
            int from = s;
            t.run(x -> x.begin(from, 0));
            t.due("send", x -> x.send(from, 0), s + 4);
        }
        for (int w = 5; w < 9; w++) {
            int wire = w;
            t.due("deliver", x -> x.deliver(0, wire), 1);
        }
        t.due("four of the PREKEY now", x -> x.device(0, 3), 4);
        t.refused("these are four", x -> x.deliver(0, 9), -12);
        t.due("the one before has three and one more", x -> x.deliver(0, 3), 1);
        t.refused("and then four", x -> x.deliver(0, 4), -12);
        t.due("these are counted apart", x -> x.device(0, 3), 4);
        t.end();
    }

    /** "ONCE is NOTHING, and BASE is one of that PREKEY's BASES" */
    private static void aBaseComesOnce() {
        Twins t = Twins.published(2);
        t.run(x -> emptyPlaces(x, 1));
        for (int w = 0; w < 3; w++) {
            int wire = w;
            t.run(x -> x.begin(0, 1));
            t.due("send", x -> x.send(0, 1), w);
            t.due("deliver", x -> x.deliver(1, wire), 1);
        }
        t.due("BASES", x -> x.device(1, 3), 3);
        t.refused("its session went, the BASE is there", x -> x.deliver(1, 0), -12);
        t.due("publish", x -> x.publish(1), 6);
        t.refused("the BASE of the PREKEY before", x -> x.deliver(1, 0), -12);
        t.end();
    }

    /** "the PREKEY now becomes the one before (that one goes, with its BASES)" */
    private static void basesGoWithTheirPrekey() {
        Twins t = Twins.published(1);
        t.run(x -> emptyPlaces(x, 0));
        t.run(x -> x.send(1, 0));
        t.due("deliver", x -> x.deliver(0, 0), 1);
        t.due("IDENTITY, PREKEY, BASE, four, a session", x -> x.device(0, 4), 1 + 2 + 4 + 5);
        t.due("publish", x -> x.publish(0), 6);
        t.due("BASES of the one now", x -> x.device(0, 3), 0);
        t.due("one more PREKEY", x -> x.device(0, 4), 1 + 1 + 2 + 4 + 5);
        t.due("publish", x -> x.publish(0), 7);
        t.due("the BASE went", x -> x.device(0, 4), 1 + 1 + 1 + 4 + 5);
        t.end();
    }

    /** "then ONE-TIME keys up to four" */
    private static void oneTimeKeysUpToFour() {
        for (int used = 0; used <= 4; used++) {
            int gone = used;
            Twins t = Twins.published(1);
            for (int s = 1; s <= used; s++) {
                int from = s;
                t.due("send", x -> x.send(from, 0), s - 1);
                t.due("deliver", x -> x.deliver(0, from - 1), 1);
            }
            t.due("left", x -> x.device(0, 2), 4 - gone);
            t.run(x -> {
                int before = x.count(2);
                Check.due("publish", x.publish(0), 6);
                Check.due("DRAWS", x.count(2) - before, 1 + gone);
            });
            t.due("four", x -> x.device(0, 2), 4);
            t.end();
        }
    }

    /** "Numbers of its keys are 1, 2, .. as they are drawn (PREKEYS and ONE-TIME keys together)" */
    private static void numbersAsTheyAreDrawn() {
        SealedHouse x = new SealedHouse();
        Check.due("the first", x.publish(0), 1);
        numbersAre(x, 0, 1, 2, 3, 4, 5);
        Check.due("others count for themselves", x.publish(1), 1);
        Check.due("behind five", x.publish(0), 6);
        numbersAre(x, 0, 6, 2, 3, 4, 5);
        Check.due("behind one", x.publish(0), 7);
        x.send(1, 0);
        x.deliver(0, 0);
        Check.due("behind one", x.publish(0), 8);
        numbersAre(x, 0, 8, 3, 4, 5, 9);
        Check.due("behind two", x.publish(0), 10);
        numbersAre(x, 0, 10, 3, 4, 5, 9);
    }

    private static void numbersAre(SealedHouse x, int d, int... numbers) {
        for (int place = 0; place < 5; place++) {
            Check.due("place " + place, x.take(0, 1, 5 * d + place), 1);
            x.part(0, 0, 5);
            Check.all("its row", Check.answers(x.about(0, 1), x.about(0, 2), x.about(0, 3)),
                    place == 0 ? 1 : 2, d, numbers[place]);
        }
    }

    /** "places 1 .. 4 ROW 2 (device, number; PUBLIC) of its ONE-TIME keys, by numbers" */
    private static void placesByNumbers() {
        for (int used = 1; used <= 4; used++) {
            SealedHouse x = new SealedHouse();
            x.publish(5);
            for (int place = 1; place < used; place++) {
                x.plant(5, place, -1);
            }
            x.send(0, 5);
            Check.due("the key at place " + used + " goes", x.deliver(5, 0), 1);
            Check.due("publish", x.publish(5), 6);
            int[] due = {6, 2, 3, 4, 5};
            for (int place = used; place < 4; place++) {
                due[place] = due[place + 1];
            }
            due[4] = 7;
            numbersAre(x, 5, due);
        }
    }

    /** "THE DIRECTORY has five places, 0 .. 4, for each device" */
    private static void fivePlaces() {
        Twins t = Twins.published(6);
        t.run(x -> x.draw(0));
        t.refused("place -1", x -> x.plant(0, -1, 0), NONE);
        t.refused("place 5", x -> x.plant(0, 5, 0), NONE);
        t.refused("device -1", x -> x.plant(-1, 0, 0), NONE);
        t.refused("device 6", x -> x.plant(6, 0, 0), NONE);
        t.refused("an empty register", x -> x.plant(0, 0, 1), NONE);
        t.refused("register -2", x -> x.plant(0, 0, -2), NONE);
        t.refused("register 32", x -> x.plant(0, 0, 32), NONE);
        t.refused("i -1", x -> x.take(1, 1, -1), NONE);
        t.refused("i 30", x -> x.take(1, 1, 30), NONE);
        for (int i : new int[] {0, 4, 5, 25, 29}) {
            t.due("take " + i, x -> x.take(1, 1, i), 1);
            t.due("not what is planted", x -> x.same(0, 1), 0);
            t.due("plant", x -> x.plant(i / 5, i % 5, 0), 1);
            t.due("take", x -> x.take(1, 1, i), 1);
            t.due("what was planted", x -> x.same(0, 1), 1);
        }
        t.end();
    }

    /** "NOTHING in them at first; the attacker may put there what it likes" */
    private static void nothingInThemAtFirst() {
        Twins t = new Twins();
        for (int i = 0; i < 30; i++) {
            int at = i;
            t.refused("place " + i, x -> x.take(0, 1, at), NONE);
        }
        t.run(x -> x.draw(0));
        t.due("plant", x -> x.plant(3, 3, 0), 1);
        t.due("there", x -> x.take(1, 1, 18), 1);
        t.due("NOTHING", x -> x.plant(3, 3, -1), 1);
        t.refused("gone", x -> x.take(1, 1, 18), NONE);
        t.due("NOTHING where there is", x -> x.plant(3, 3, -1), 1);
        t.due("publish", x -> x.publish(3), 1);
        t.due("there", x -> x.take(1, 1, 18), 1);
        t.end();
    }

    private static void publishRefused() {
        Twins t = Twins.published(1);
        for (int d : new int[] {Integer.MIN_VALUE, -1, 6, Integer.MAX_VALUE}) {
            t.refused("no device", x -> x.publish(d), NONE);
        }
        t.due("the last device", x -> x.publish(5), 1);
        t.due("crash", x -> x.crash(0, 0), 1);
        t.due("cut", x -> x.publish(0), SealedHouse.CRASHED);
        t.refused("DOWN", x -> x.publish(0), DOWN);
        t.due("up", x -> x.up(0), 1);
        t.due("publish", x -> x.publish(0), 6);
        t.end();
    }

    /** "it has to be SIGNED(IDENTITY of d, m), m a GOOD ROW 1 of d .. (Otherwise it can't begin.)" */
    private static void beginNeedsPlaceZero() {
        Twins t = Twins.published(3);
        t.refused("NOTHING", x -> x.begin(0, 5), -5);
        t.refused("NOTHING", x -> x.send(0, 5), -5);
        t.run(x -> x.take(0, 1, 0));
        t.run(x -> x.part(1, 0, 5));
        t.run(x -> x.take(2, 1, 5));
        t.run(x -> x.draw(3));
        t.run(x -> x.make(4, 12, 3, 1));
        int[] planted = {-1, 1, 2, 3, 4};
        String[] what = {"NOTHING", "a ROW", "of another device", "a SECRET", "signed by another"};
        for (int i = 0; i < planted.length; i++) {
            int r = planted[i];
            t.due("plant", x -> x.plant(0, 0, r), 1);
            t.refused(what[i], x -> x.begin(2, 0), -5);
            t.refused(what[i], x -> x.send(2, 0), -5);
        }
        t.due("as it was", x -> x.plant(0, 0, 0), 1);
        t.due("begin", x -> x.begin(2, 0), 1);
        t.due("plant", x -> x.plant(0, 0, -1), 1);
        t.due("a session that is there needs none", x -> x.send(2, 0), 0);
        t.end();
    }

    /** "Then the first of places 1 .. 4 that is not NOTHING, which is NOTHING from then on" */
    private static void beginTakesTheFirstPlace() {
        for (int first = 1; first <= 4; first++) {
            SealedHouse x = new SealedHouse();
            x.publish(0);
            for (int place = 1; place < first; place++) {
                x.plant(0, place, -1);
            }
            x.take(0, 1, first);
            x.part(0, 0, 0);
            Check.due("begin", x.begin(1, 0), 1);
            for (int place = 1; place <= 4; place++) {
                Check.due("place " + place, x.take(1, 1, place), place > first ? 1 : NONE);
            }
            Check.due("place 0 stays", x.take(1, 1, 0), 1);
            Check.due("terms, with ONCE", x.look(1), 8);
            x.take(2, 3, 7);
            Check.due("it is the o", x.same(0, 2), 1);
            x.send(1, 0);
            x.deliver(0, 0);
            Check.due("that key went", x.device(0, 2), 3);
        }
    }

    /** "otherwise, and without any, there is no o" */
    private static void beginWithoutOnce() {
        SealedHouse x = new SealedHouse();
        x.publish(0);
        for (int s = 1; s <= 4; s++) {
            Check.due("begin", x.begin(s, 0), 1);
            Check.due("with ONCE", x.device(s, 5), 8);
        }
        Check.due("the fifth", x.begin(5, 0), 1);
        Check.due("entries", x.device(5, 4), 7);
        Check.due("without ONCE", x.device(5, 5), 7);
        x.send(5, 0);
        x.take(0, 0, 0);
        x.part(0, 0, 4);
        Check.all("PREKEY, no ONCE", Check.answers(x.part(1, 0, 2), x.part(1, 0, 3)), 1, NONE);
        Check.due("taken", x.deliver(0, 0), 1);
        Check.all("a BASE, no key", Check.answers(x.device(0, 2), x.device(0, 3)), 4, 1);
    }

    /** "if it is a GOOD ROW 2 of d, o is its PUBLIC; otherwise .. there is no o" */
    private static void beginSpendsWhatIsNoGoodRow() {
        for (int k = 0; k < 3; k++) {
            SealedHouse x = new SealedHouse();
            x.publish(0);
            x.publish(1);
            // a row of another device, a SIGNED, a SECRET
            x.take(0, 1, k == 0 ? 6 : 0);
            if (k == 2) {
                x.draw(0);
            }
            x.plant(0, 2, 0);
            x.plant(0, 1, -1);
            Check.due("begin", x.begin(2, 0), 1);
            Check.due("without ONCE", x.device(2, 5), 7);
            Check.due("place 2 is NOTHING", x.take(1, 1, 2), NONE);
            Check.due("place 3 stays", x.take(1, 1, 3), 1);
            Check.due("and is the next", x.begin(3, 0), 1);
            Check.due("with ONCE", x.device(3, 5), 8);
            Check.due("place 3 is NOTHING", x.take(1, 1, 3), NONE);
        }
    }

    /** "N, BEFORE, NEXT 0; it BEARS p and o (or NOTHING). e is kept nowhere." */
    private static void beginMakesASession() {
        SealedHouse x = new SealedHouse();
        x.publish(0);
        Check.due("begin", x.begin(1, 0), 1);
        Check.due("e and r are drawn", x.count(2), 6 + 5 + 2);
        Check.all("N, BEFORE, NEXT, LEFT, BEARS, SEND, RECEIVE", Check.answers(
                x.session(1, 0, 0, 0), x.session(1, 0, 0, 1), x.session(1, 0, 0, 2),
                x.session(1, 0, 0, 3), x.session(1, 0, 0, 4), x.session(1, 0, 0, 5),
                x.session(1, 0, 0, 6)), 0, 0, 0, 0, 1, 1, 0);
        Check.due("no wire", x.count(0), 0);
        x.look(1);
        x.take(0, 3, 1);
        int[] kinds = {1, 2, 4, 1, 2, 4, 2, 2};
        for (int i = 0; i < kinds.length; i++) {
            x.take(1, 3, i);
            Check.due("term " + i, x.about(1, 0), kinds[i]);
            x.make(1, 10, 1, -1);
            Check.due("e is kept nowhere", i != 1 && x.same(0, 1) == 1 ? 1 : 0, 0);
        }
    }

    private static void beginRefused() {
        Twins t = Twins.published(2);
        int[][] none = {{-1, 0}, {6, 0}, {0, -1}, {0, 6}, {0, 0}, {5, 5}};
        for (int[] pair : none) {
            t.refused("begin", x -> x.begin(pair[0], pair[1]), NONE);
            t.refused("send", x -> x.send(pair[0], pair[1]), NONE);
        }
        t.due("the last device", x -> x.begin(5, 0), 1);
        t.due("crash", x -> x.crash(0, 0), 1);
        t.due("cut", x -> x.publish(0), SealedHouse.CRASHED);
        t.refused("DOWN", x -> x.begin(0, 1), DOWN);
        t.refused("DOWN comes ahead of -5", x -> x.begin(0, 4), DOWN);
        t.refused("NONE comes ahead of DOWN", x -> x.begin(0, 0), NONE);
        t.refused("DOWN", x -> x.send(0, 1), DOWN);
        t.due("to one that is DOWN", x -> x.begin(1, 0), 1);
        t.end();
    }
}
