/** Promises 1 to 10: a new object, and what devices do. */
public final class DevicesTest {
    private static final int NONE = SealedHouse.NONE;
    private static final int DOWN = SealedHouse.DOWN;
    private static final int CRASHED = SealedHouse.CRASHED;
    private static final int[] ODD = {Integer.MIN_VALUE, -1, 6, Integer.MAX_VALUE};

    private DevicesTest() {
    }

    public static void main(String[] args) {
        newObject();
        publish();
        publishKeepsOneBefore();
        begin();
        beginTakesOneTimeKeys();
        send();
        sendTurnsKeys();
        list();
        post();
        postGoesStale();
        postPassesOver();
        deliverSessions();
        deliverSkips();
        deliverSkipsTheOldChain();
        deliverBases();
        deliverBaseAgain();
        deliverThirdSession();
        deliverLists();
        deliverPosts();
        inject();
        crash();
        crashInPost();
        crashWaits();
        up();
        Check.end();
    }

    private static void due(String what, int got, int want) {
        Check.due(what, got, want);
    }

    private static SealedHouse published(int devices) {
        SealedHouse x = new SealedHouse();
        for (int d = 0; d < devices; d++) {
            due("publish(" + d + ")", x.publish(d), 1);
        }
        return x;
    }

    private static void newObject() {
        SealedHouse x = new SealedHouse();
        Check.all("counts", Check.answers(x.count(0), x.count(1), x.count(2)), 0, 0, 6);
        for (int r = 0; r < 32; r++) {
            due("register " + r, x.about(r, 0), NONE);
        }
        for (int i = 0; i < 30; i++) {
            due("place " + i, x.take(0, 1, i), NONE);
        }
        for (int d = 0; d < 6; d++) {
            Check.all("device " + d, Check.answers(x.device(d, 0), x.device(d, 1), x.device(d, 2),
                    x.device(d, 3), x.device(d, 4), x.device(d, 5), x.device(d, 6), x.device(d, 7)),
                    0, 0, 0, 0, 1, 1, 0, 0);
            due("identity", x.take(d, 2, d), 1);
            for (int e = 0; e < d; e++) {
                due("identities differ", x.same(d, e), 0);
            }
        }
        Check.all("told", Check.answers(x.forged(), x.doubled(), x.leaked()), 0, 0, 0);
        SealedHouse y = new SealedHouse();
        x.publish(0);
        due("another object", y.device(0, 0), 0);
    }

    private static void publish() {
        SealedHouse x = new SealedHouse();
        for (int d : ODD) {
            due("publish", x.publish(d), NONE);
        }
        due("no draws for refused calls", x.count(2), 6);
        due("publish(3)", x.publish(3), 1);
        Check.all("keys", Check.answers(x.device(3, 0), x.device(3, 1), x.device(3, 2),
                x.device(3, 4), x.device(3, 5), x.device(3, 6)), 1, 0, 4, 6, 6, 1);
        due("draws", x.count(2), 11);
        due("place 0", x.take(0, 1, 15), 1);
        due("is SIGNED", x.about(0, 0), 6);
        due("its row", x.part(1, 0, 5), 1);
        Check.all("row 1", Check.answers(x.about(1, 0), x.about(1, 1), x.about(1, 2), x.about(1, 3),
                x.about(1, 4), x.about(1, 5)), 7, 1, 3, 1, 0, 0);
        Check.all("its terms", Check.answers(x.part(2, 1, 0), x.about(2, 0), x.part(3, 1, 1),
                x.part(3, 1, 2), x.part(3, 1, 3)), 1, 2, NONE, NONE, NONE);
        for (int i = 1; i < 5; i++) {
            due("place " + i, x.take(1, 1, 15 + i), 1);
            Check.all("row 2", Check.answers(x.about(1, 0), x.about(1, 1), x.about(1, 2),
                    x.about(1, 3), x.about(1, 4), x.about(1, 5)), 7, 2, 3, i + 1, 0, 0);
            Check.all("its terms", Check.answers(x.part(2, 1, 0), x.about(2, 0), x.part(3, 1, 1),
                    x.part(3, 1, 2), x.part(3, 1, 3)), 1, 2, NONE, NONE, NONE);
        }
        due("signed by the identity", x.look(3), 6);
        x.take(4, 3, 0);
        x.part(1, 0, 5);
        due("make SIGNED", x.make(5, 12, 4, 1), 1);
        due("the same", x.same(0, 5), 1);
        x.take(4, 3, 1);
        x.make(4, 10, 4, -1);
        x.part(1, 1, 0);
        due("PUBLIC of the PREKEY", x.same(1, 4), 1);
    }

    private static void publishKeepsOneBefore() {
        SealedHouse x = published(2);
        due("all four are there", x.publish(1), 6);
        Check.all("keys", Check.answers(x.device(1, 0), x.device(1, 1), x.device(1, 2)), 6, 1, 4);
        due("send", x.send(0, 1), 0);
        due("deliver", x.deliver(1, 0), 1);
        due("one of them went", x.device(1, 2), 3);
        due("publish", x.publish(1), 7);
        Check.all("keys", Check.answers(x.device(1, 0), x.device(1, 1), x.device(1, 2)), 7, 6, 4);
        for (int i = 1; i < 5; i++) {
            x.take(0, 1, 5 + i);
            due("by numbers", x.about(0, 3), i < 4 ? i + 2 : 8);
        }
        due("what was planted goes", x.plant(1, 2, -1), 1);
        due("publish", x.publish(1), 9);
        due("place 2", x.take(0, 1, 7), 1);
    }

    private static void begin() {
        SealedHouse x = new SealedHouse();
        for (int odd : ODD) {
            due("begin", x.begin(odd, 0), NONE);
            due("begin", x.begin(0, odd), NONE);
        }
        due("with itself", x.begin(2, 2), NONE);
        due("nothing published", x.begin(0, 1), -5);
        due("no draws", x.count(2), 6);
        due("no commit", x.device(0, 6), 0);
        x.publish(1);
        due("begin", x.begin(0, 1), 1);
        due("two draws", x.count(2), 13);
        Check.all("session", Check.answers(x.session(0, 1, 0, 0), x.session(0, 1, 0, 1),
                x.session(0, 1, 0, 2), x.session(0, 1, 0, 3), x.session(0, 1, 0, 4),
                x.session(0, 1, 0, 5), x.session(0, 1, 0, 6)), 0, 0, 0, 0, 1, 1, 0);
        due("none with the others", x.session(1, 0, 0, 0), NONE);
        due("entries", x.device(0, 4), 7);
        due("terms, with ONCE", x.device(0, 5), 8);
        due("another one", x.begin(0, 1), 2);
        due("a third one", x.begin(0, 1), 2);
        due("no wires", x.count(0), 0);
        due("a place planted", x.take(0, 2, 1), 1);
        due("plant", x.plant(1, 0, 0), 1);
        due("that is not SIGNED", x.begin(0, 1), -5);
        due("begin with a signed row of another device", x.publish(2), 1);
        x.take(0, 1, 10);
        x.plant(1, 0, 0);
        due("not of 1", x.begin(0, 1), -5);
        due("send has sessions", x.send(0, 1), 0);
        due("send of another has none", x.send(2, 1), -5);
    }

    private static void beginTakesOneTimeKeys() {
        SealedHouse x = published(3);
        due("begin", x.begin(0, 2), 1);
        due("place 1 went", x.take(0, 1, 11), NONE);
        due("place 2 is there", x.take(0, 1, 12), 1);
        due("a row of another device", x.take(0, 1, 6), 1);
        x.plant(2, 1, 0);
        due("begin", x.begin(0, 2), 2);
        due("it is taken all the same", x.take(0, 1, 11), NONE);
        due("and only it", x.take(0, 1, 12), 1);
        due("entries", x.device(0, 4), 18);
        due("without ONCE", x.device(0, 5), 19);
        due("send", x.send(0, 2), 0);
        due("it made a BASE", x.deliver(2, 0), 1);
        due("BASES", x.device(2, 3), 1);
        due("ONE-TIME keys", x.device(2, 2), 4);
        for (int i = 1; i < 5; i++) {
            x.plant(2, i, -1);
        }
        due("begin without any", x.begin(1, 2), 1);
        x.take(0, 2, 0);
        x.plant(2, 4, 0);
        due("begin with what is no row", x.begin(1, 2), 2);
        due("taken", x.take(0, 1, 14), NONE);
    }

    private static void send() {
        SealedHouse x = new SealedHouse();
        for (int odd : ODD) {
            due("send", x.send(odd, 0), NONE);
            due("send", x.send(0, odd), NONE);
        }
        due("to itself", x.send(4, 4), NONE);
        due("nothing published", x.send(4, 5), -5);
        due("no draws", x.count(2), 6);
        x.publish(5);
        due("send", x.send(4, 5), 0);
        due("e, r and the letter", x.count(2), 14);
        due("send", x.send(4, 5), 1);
        due("a letter", x.count(2), 15);
        Check.all("letters", Check.answers(x.letter(0), x.letter(1), x.count(1)), 0, 1, 2);
        x.take(0, 0, 1);
        due("SEALED", x.about(0, 0), 5);
        x.part(1, 0, 4);
        Check.all("head", Check.answers(x.about(1, 1), x.about(1, 2), x.about(1, 3), x.about(1, 4),
                x.about(1, 5)), 3, 4, 5, 1, 0);
        Check.all("it bears both", Check.answers(x.part(2, 1, 0), x.part(3, 1, 1), x.part(4, 1, 2),
                x.part(5, 1, 3)), 1, 1, 1, 1);
        x.take(6, 1, 25);
        x.part(6, 6, 5);
        x.part(6, 6, 0);
        due("PREKEY", x.same(4, 6), 1);
        due("in the first session", x.begin(4, 5), 2);
        due("send", x.send(4, 5), 2);
        Check.all("N", Check.answers(x.session(4, 5, 0, 0), x.session(4, 5, 1, 0)), 1, 2);
    }

    private static void sendTurnsKeys() {
        SealedHouse x = published(2);
        x.send(0, 1);
        x.send(0, 1);
        x.deliver(1, 0);
        due("no SEND yet", x.session(1, 0, 0, 5), 0);
        int draws = x.count(2);
        due("send", x.send(1, 0), 2);
        due("MINE and the letter", x.count(2), draws + 2);
        due("SEND", x.session(1, 0, 0, 5), 1);
        due("send", x.send(1, 0), 3);
        due("the letter", x.count(2), draws + 3);
        due("deliver", x.deliver(0, 2), 1);
        Check.all("0 has to turn", Check.answers(x.session(0, 1, 0, 0), x.session(0, 1, 0, 1),
                x.session(0, 1, 0, 4), x.session(0, 1, 0, 5)), 2, 0, 0, 0);
        due("send", x.send(0, 1), 4);
        Check.all("0 turned", Check.answers(x.session(0, 1, 0, 0), x.session(0, 1, 0, 1),
                x.session(0, 1, 0, 5)), 1, 2, 1);
        x.take(0, 0, 4);
        x.part(0, 0, 4);
        Check.all("head", Check.answers(x.about(0, 4), x.about(0, 5), x.part(1, 0, 2),
                x.part(1, 0, 3)), 0, 2, NONE, NONE);
        due("deliver", x.deliver(1, 4), 1);
        Check.all("1 left a key", Check.answers(x.session(1, 0, 0, 2), x.session(1, 0, 0, 3)), 1, 1);
    }

    private static void list() {
        SealedHouse x = new SealedHouse();
        due("list", x.list(-1, 1), NONE);
        due("no group 4", x.list(4, 63), NONE);
        due("mask", x.list(0, -1), NONE);
        due("mask", x.list(0, 64), NONE);
        due("without the owner", x.list(1, 61), -6);
        due("no owner at all", x.list(1, 0), -6);
        due("no commit", x.device(1, 6), 0);
        due("list", x.list(1, 62), 0);
        Check.all("group", Check.answers(x.group(1, 1, 0), x.group(1, 1, 1), x.group(1, 1, 2),
                x.group(1, 1, 6)), 1, 62, 0, 0);
        due("others have none", x.group(2, 1, 0), 0);
        due("list", x.list(1, 7), 1);
        Check.all("group", Check.answers(x.group(1, 1, 0), x.group(1, 1, 1), x.group(1, 1, 2),
                x.group(1, 1, 6)), 2, 7, 56, 1);
        due("one that is GONE", x.list(1, 15), -6);
        due("version stays", x.group(1, 1, 0), 2);
        due("the same again", x.list(1, 7), 2);
        due("only the owner", x.list(1, 2), 3);
        due("no draws", x.count(2), 6);
        due("no letters", x.letter(3), NONE);
        x.take(0, 0, 1);
        due("SIGNED", x.about(0, 0), 6);
        x.part(0, 0, 5);
        Check.all("row", Check.answers(x.about(0, 1), x.about(0, 2), x.about(0, 3), x.about(0, 4),
                x.about(0, 5)), 6, 1, 2, 7, 0);
    }

    private static void post() {
        SealedHouse x = published(4);
        due("post", x.post(-1, 0), NONE);
        due("post", x.post(6, 0), NONE);
        due("post", x.post(0, -1), NONE);
        due("post", x.post(0, 4), NONE);
        due("no list yet", x.post(0, 0), -6);
        x.list(0, 15);
        due("no list came", x.post(1, 0), -6);
        int draws = x.count(2);
        due("post", x.post(0, 0), 4);
        due("CHAIN, SIGNER, three begun, a letter", x.count(2), draws + 9);
        Check.all("group", Check.answers(x.group(0, 0, 3), x.group(0, 0, 4), x.group(0, 0, 5)),
                1, 1, 14);
        Check.all("letters", Check.answers(x.letter(1), x.letter(2), x.letter(3), x.letter(4)),
                NONE, NONE, NONE, 0);
        due("post", x.post(0, 0), 5);
        due("a letter", x.count(2), draws + 10);
        Check.all("group", Check.answers(x.group(0, 0, 3), x.group(0, 0, 4)), 1, 2);
        x.take(0, 0, 5);
        due("SIGNED", x.about(0, 0), 6);
        x.part(1, 0, 5);
        due("SEALED", x.about(1, 0), 5);
        x.part(2, 1, 4);
        Check.all("head", Check.answers(x.about(2, 1), x.about(2, 2), x.about(2, 3), x.about(2, 4),
                x.about(2, 5)), 7, 0, 0, 1, 1);
        for (int w = 1; w < 4; w++) {
            x.take(0, 0, w);
            x.part(0, 0, 4);
            due("gifts go upward", x.about(0, 3), w);
        }
    }

    private static void postGoesStale() {
        SealedHouse x = published(3);
        x.list(0, 3);
        due("post", x.post(0, 0), 2);
        due("list", x.list(0, 7), 3);
        due("post", x.post(0, 0), 5);
        Check.all("one more has it", Check.answers(x.group(0, 0, 3), x.group(0, 0, 4),
                x.group(0, 0, 5), x.group(0, 0, 6)), 1, 2, 6, 0);
        due("gift with the index", x.deliver(2, 4), 2);
        Check.all("given", Check.answers(x.group(2, 0, 10), x.group(2, 0, 20), x.group(2, 0, 30)),
                1, 1, 1);
        due("list", x.list(0, 5), 6);
        due("STALE", x.group(0, 0, 6), 1);
        due("post", x.post(0, 0), 8);
        Check.all("a new key", Check.answers(x.group(0, 0, 3), x.group(0, 0, 4), x.group(0, 0, 5),
                x.group(0, 0, 6)), 2, 1, 4, 0);
        due("gift", x.deliver(2, 7), 2);
        Check.all("two keys", Check.answers(x.group(2, 0, 10), x.group(2, 0, 20)), 2, 2);
    }

    private static void postPassesOver() {
        SealedHouse x = published(2);
        x.list(0, 7);
        due("2 has nothing published", x.post(0, 0), 2);
        due("GAVE", x.group(0, 0, 5), 2);
        x.publish(2);
        due("now it goes to 2", x.post(0, 0), 4);
        due("GAVE", x.group(0, 0, 5), 6);
        SealedHouse y = published(1);
        y.list(0, 1);
        due("to nobody", y.post(0, 0), 1);
        due("GAVE", y.group(0, 0, 5), 0);
    }

    private static void deliverSessions() {
        SealedHouse x = published(3);
        due("no wire yet", x.deliver(1, 0), NONE);
        x.send(0, 1);
        for (int odd : ODD) {
            due("deliver", x.deliver(odd, 0), NONE);
        }
        due("deliver", x.deliver(1, -1), NONE);
        due("deliver", x.deliver(1, 1), NONE);
        due("to another one", x.deliver(2, 0), -11);
        due("to the sender", x.deliver(0, 0), -11);
        due("nothing was taken", x.taken(1, 3), 0);
        due("a letter", x.deliver(1, 0), 1);
        Check.all("session", Check.answers(x.session(1, 0, 0, 0), x.session(1, 0, 0, 2),
                x.session(1, 0, 0, 4), x.session(1, 0, 0, 5), x.session(1, 0, 0, 6)), 0, 1, 0, 0, 1);
        due("ONE-TIME keys", x.device(1, 2), 3);
        due("again", x.deliver(1, 0), -13);
        x.publish(1);
        x.publish(1);
        x.send(2, 1);
        x.publish(1);
        due("by the PREKEY before", x.deliver(1, 1), 1);
        x.begin(0, 1);
        x.send(0, 1);
        x.publish(1);
        x.publish(1);
        due("that PREKEY went", x.deliver(1, 2), -12);
    }

    private static void deliverSkips() {
        SealedHouse x = published(2);
        for (int w = 0; w < 20; w++) {
            due("send", x.send(0, 1), w);
        }
        due("six ahead", x.deliver(1, 6), -13);
        due("no session was made", x.session(1, 0, 0, 0), NONE);
        due("five ahead", x.deliver(1, 5), 1);
        Check.all("LEFT", Check.answers(x.session(1, 0, 0, 2), x.session(1, 0, 0, 3)), 6, 5);
        due("seven above 5", x.deliver(1, 12), -13);
        due("five left", x.deliver(1, 11), 1);
        Check.all("eight at most", Check.answers(x.session(1, 0, 0, 2), x.session(1, 0, 0, 3)), 12, 8);
        due("the oldest went", x.deliver(1, 0), -13);
        due("the oldest went", x.deliver(1, 1), -13);
        due("this one is left", x.deliver(1, 2), 1);
        due("LEFT", x.session(1, 0, 0, 3), 7);
        due("only once", x.deliver(1, 2), -13);
        due("the next", x.deliver(1, 12), 1);
        due("LEFT", x.session(1, 0, 0, 3), 7);
        for (int w : new int[] {10, 3, 9, 4, 8, 6, 7}) {
            due("left", x.deliver(1, w), 1);
        }
        due("none left", x.session(1, 0, 0, 3), 0);
        due("taken", x.taken(1, 3), 11);
    }

    private static void deliverSkipsTheOldChain() {
        SealedHouse x = published(2);
        for (int i = 0; i < 4; i++) {
            x.send(0, 1);
        }
        x.deliver(1, 0);
        x.send(1, 0);
        x.deliver(0, 4);
        due("on another chain", x.send(0, 1), 5);
        due("send", x.send(0, 1), 6);
        due("deliver", x.deliver(1, 6), 1);
        Check.all("three of the one, one of the other", Check.answers(x.session(1, 0, 0, 2),
                x.session(1, 0, 0, 3), x.session(1, 0, 0, 5)), 2, 4, 0);
        due("of the old chain", x.deliver(1, 3), 1);
        due("of the new one", x.deliver(1, 5), 1);
        due("of the old one", x.deliver(1, 1), 1);
        due("LEFT", x.session(1, 0, 0, 3), 1);
        SealedHouse y = published(2);
        for (int i = 0; i < 7; i++) {
            y.send(0, 1);
        }
        y.deliver(1, 0);
        y.send(1, 0);
        y.deliver(0, 7);
        y.send(0, 1);
        due("too many of the old one", y.deliver(1, 8), -13);
        due("one more", y.deliver(1, 1), 1);
        due("now it can", y.deliver(1, 8), 1);
        due("LEFT", y.session(1, 0, 0, 3), 5);
    }

    private static void deliverBases() {
        SealedHouse x = published(6);
        for (int i = 1; i < 5; i++) {
            x.plant(0, i, -1);
        }
        for (int s = 1; s < 6; s++) {
            due("send", x.send(s, 0), s - 1);
        }
        for (int s = 1; s < 5; s++) {
            due("deliver", x.deliver(0, s - 1), 1);
            due("BASES", x.device(0, 3), s);
        }
        due("these are four", x.deliver(0, 4), -12);
        due("ONE-TIME keys", x.device(0, 2), 4);
        due("entries", x.device(0, 4), 1 + 1 + 4 + 4 + 4 * 5);
        x.begin(1, 0);
        x.send(1, 0);
        x.begin(1, 0);
        x.send(1, 0);
        x.publish(0);
        due("BASES of the new one", x.device(0, 3), 0);
        due("of the one before these are four still", x.deliver(0, 5), -12);
        for (int i = 1; i < 5; i++) {
            x.plant(0, i, -1);
        }
        x.begin(1, 0);
        due("send", x.send(1, 0), 7);
        due("by the new one", x.deliver(0, 7), 1);
        x.begin(1, 0);
        x.send(1, 0);
        due("a third session", x.deliver(0, 8), 1);
        due("BASES", x.device(0, 3), 2);
        due("the first wire of all does not come again", x.deliver(0, 0), -12);
        x.publish(0);
        due("nor this one, of a session that is there", x.deliver(0, 7), -13);
    }

    private static void deliverBaseAgain() {
        SealedHouse x = published(2);
        for (int i = 1; i < 5; i++) {
            x.plant(1, i, -1);
        }
        for (int w = 0; w < 3; w++) {
            x.begin(0, 1);
            x.send(0, 1);
            due("deliver", x.deliver(1, w), 1);
        }
        due("BASES", x.device(1, 3), 3);
        due("its session went, but its BASE is there", x.deliver(1, 0), -12);
        due("send", x.send(0, 1), 3);
        due("deliver", x.deliver(1, 3), 1);
        due("no BASE for a session that is there", x.device(1, 3), 3);
    }

    private static void deliverThirdSession() {
        SealedHouse x = published(2);
        for (int i = 0; i < 3; i++) {
            x.begin(0, 1);
            x.send(0, 1);
        }
        Check.all("0 has two", Check.answers(x.session(0, 1, 0, 0), x.session(0, 1, 1, 0),
                x.session(0, 1, 2, 0)), 1, 1, NONE);
        due("deliver", x.deliver(1, 0), 1);
        due("deliver", x.deliver(1, 1), 1);
        due("deliver", x.deliver(1, 2), 1);
        due("ONE-TIME keys", x.device(1, 2), 1);
        due("the oldest session went", x.deliver(1, 0), -12);
        due("this one is there", x.deliver(1, 1), -13);
        due("1 answers in the first", x.send(1, 0), 3);
        due("0 takes it", x.deliver(0, 3), 1);
        Check.all("the first of 0", Check.answers(x.session(0, 1, 0, 6), x.session(0, 1, 1, 6)), 1, 0);
        x.send(0, 1);
        x.begin(0, 1);
        due("a wire of the second session", x.send(1, 0), 4 + 1);
        due("makes it the first", x.deliver(0, 5), 1);
        Check.all("the first of 0", Check.answers(x.session(0, 1, 0, 6), x.session(0, 1, 1, 6)), 1, 0);
    }

    private static void deliverLists() {
        SealedHouse x = new SealedHouse();
        x.list(2, 0b011110);
        x.list(2, 0b001110);
        x.list(2, 0b001110);
        due("to the owner", x.deliver(2, 0), -16);
        due("it lacks 0", x.deliver(0, 0), -16);
        due("deliver", x.deliver(1, 0), 3);
        due("again", x.deliver(1, 0), -16);
        due("deliver", x.deliver(1, 2), 3);
        Check.all("group", Check.answers(x.group(1, 2, 0), x.group(1, 2, 1), x.group(1, 2, 2),
                x.group(1, 2, 6)), 3, 14, 16, 1);
        due("an older one", x.deliver(1, 1), -16);
        due("4 is in the first", x.deliver(4, 0), 3);
        due("but not in this one", x.deliver(4, 1), -16);
        due("version", x.group(4, 2, 0), 1);
        due("3 begins with this one", x.deliver(3, 2), 3);
        Check.all("nobody is GONE there", Check.answers(x.group(3, 2, 0), x.group(3, 2, 2),
                x.group(3, 2, 6)), 3, 0, 0);
        due("lists are no letters", x.taken(3, 3), 0);
    }

    private static void deliverPosts() {
        SealedHouse x = published(4);
        x.list(0, 15);
        for (int d = 1; d < 3; d++) {
            x.deliver(d, 0);
        }
        due("post", x.post(1, 0), 4);
        for (int i = 0; i < 8; i++) {
            due("post", x.post(1, 0), 5 + i);
        }
        due("to itself", x.deliver(1, 4), -11);
        due("without a gift", x.deliver(2, 4), -17);
        due("a gift", x.deliver(3, 3), 2);
        due("without a list", x.deliver(3, 4), -17);
        due("the list", x.deliver(3, 0), 3);
        due("now it is taken", x.deliver(3, 4), 1);
        Check.all("told", Check.answers(x.taken(3, 0), x.taken(3, 1), x.taken(3, 2)), 0, 1, 0);
        due("again", x.deliver(3, 4), -13);
        due("six ahead", x.deliver(3, 11), -13);
        due("five ahead", x.deliver(3, 10), 1);
        Check.all("given", Check.answers(x.group(3, 0, 11), x.group(3, 0, 21), x.group(3, 0, 31),
                x.group(3, 0, 41)), 1, 1, 7, 5);
        due("left", x.deliver(3, 6), 1);
        due("left only once", x.deliver(3, 6), -13);
        due("LEFT", x.group(3, 0, 41), 4);
        due("1 is GONE", x.list(0, 13), 13);
        due("list", x.deliver(3, 13), 3);
        due("what it gave went", x.group(3, 0, 11), 0);
        due("post of one that is GONE", x.deliver(3, 7), -17);
    }

    private static void inject() {
        SealedHouse x = published(2);
        due("inject", x.inject(1, 0), NONE);
        due("inject", x.inject(1, -1), NONE);
        due("inject", x.inject(1, 32), NONE);
        x.send(0, 1);
        x.take(31, 0, 0);
        for (int odd : ODD) {
            due("inject", x.inject(odd, 31), NONE);
        }
        due("a letter", x.inject(1, 31), 1);
        due("again", x.inject(1, 31), -13);
        x.draw(0);
        due("a SECRET", x.inject(1, 0), -10);
        x.take(0, 2, 0);
        due("a PUBLIC", x.inject(1, 0), -10);
        x.take(0, 1, 0);
        due("SIGNED, but no list", x.inject(1, 0), -10);
        x.part(0, 0, 5);
        due("a ROW", x.inject(1, 0), -10);
        x.seal(1, 0, 0, 0);
        due("SEALED with another head", x.inject(1, 1), -10);
        x.list(0, 3);
        x.take(0, 0, 1);
        due("a list", x.inject(1, 0), 3);
        x.crash(1, 0);
        x.publish(1);
        due("DOWN", x.inject(1, 0), DOWN);
        due("NONE comes first", x.inject(1, 7), NONE);
    }

    private static void crash() {
        for (int k = 0; k < 5; k++) {
            SealedHouse x = published(2);
            x.send(0, 1);
            due("crash", x.crash(1, k), 1);
            // two blocks are written, then the head, then one block is emptied
            int answer = x.deliver(1, 0);
            due("deliver", answer, k < 4 ? CRASHED : 1);
            due("DOWN", x.device(1, 7), k < 4 ? 1 : 0);
            due("present half", x.device(1, 6), k < 3 ? 1 : 0);
            due("entries", x.device(1, 4), k < 3 ? 6 : 10);
            int[] lying = {6, 14, 16, 16, 10};
            due("terms", x.device(1, 5), lying[k]);
            due("look", x.look(1), lying[k]);
            due("taken", x.taken(1, 3), k < 4 ? 0 : 1);
            due("session", x.session(1, 0, 0, 2), k < 3 ? NONE : 1);
            due("ONE-TIME keys", x.device(1, 2), k < 3 ? 4 : 3);
            due("up", x.up(1), k < 4 ? 1 : 0);
            due("terms", x.device(1, 5), k < 3 ? 6 : 10);
            due("deliver", x.deliver(1, 0), k < 3 ? 1 : -13);
        }
        SealedHouse x = new SealedHouse();
        due("crash", x.crash(-1, 0), NONE);
        due("crash", x.crash(6, 0), NONE);
        due("crash", x.crash(0, -1), NONE);
        due("crash", x.crash(0, 201), NONE);
        due("crash", x.crash(0, 200), 1);
        due("publish", x.publish(0), 1);
        due("crash", x.crash(0, 0), 1);
        due("publish", x.publish(0), CRASHED);
        due("it is DOWN", x.crash(0, 0), DOWN);
        Check.all("DOWN", Check.answers(x.publish(0), x.begin(0, 1), x.send(0, 1), x.list(0, 1),
                x.post(0, 0)), DOWN, DOWN, DOWN, DOWN, DOWN);
        due("with itself", x.begin(0, 0), NONE);
        due("no such mask", x.list(0, 64), NONE);
        due("draws count", x.count(2), 12);
        due("place 0 is the old one", x.take(0, 1, 0), 1);
        x.part(0, 0, 5);
        due("number", x.about(0, 3), 1);
        due("up", x.up(0), 1);
        due("the number was not kept", x.publish(0), 6);
    }

    private static void crashInPost() {
        SealedHouse x = published(3);
        x.list(0, 7);
        x.crash(0, 1);
        due("post", x.post(0, 0), CRASHED);
        due("no wires", x.count(0), 1);
        due("no letter", x.count(1), 0);
        due("but draws", x.count(2), 21 + 2 + 4 + 1);
        due("a place that it took", x.take(0, 1, 6), NONE);
        due("a place that it took", x.take(0, 1, 11), NONE);
        Check.all("group", Check.answers(x.group(0, 0, 0), x.group(0, 0, 3), x.group(0, 0, 5)),
                1, 0, 0);
        x.up(0);
        due("post", x.post(0, 0), 3);
        due("letters", x.letter(3), 0);
        // 19 entries lie in three blocks, and so will the next ones
        due("entries", x.device(0, 4), 6 + 12 + 1);
        x.crash(0, 4);
        due("post", x.post(0, 0), CRASHED);
        due("the head was written", x.group(0, 0, 4), 2);
        due("but it is not told", x.count(0), 4);
        x.up(0);
        due("the next post", x.post(0, 0), 4);
        x.take(0, 0, 4);
        x.part(0, 0, 5);
        x.part(0, 0, 4);
        due("its index", x.about(0, 5), 2);
    }

    private static void crashWaits() {
        SealedHouse x = published(2);
        due("crash", x.crash(1, 0), 1);
        due("the latest counts", x.crash(1, 2), 1);
        due("refused", x.send(1, 5), -5);
        due("refused", x.deliver(1, 0), NONE);
        due("up", x.up(1), 0);
        due("another device", x.publish(0), 6);
        due("cut", x.publish(1), CRASHED);
        due("the head was written", x.device(1, 0), 6);
        due("so much lay there", x.device(1, 5), 13);
        due("up", x.up(1), 1);
        due("no cut any more", x.publish(1), 7);
        due("crash", x.crash(1, 3), 1);
        due("not more than three", x.list(1, 2), 0);
        due("no cut any more", x.list(1, 2), 1);
    }

    private static void up() {
        SealedHouse x = new SealedHouse();
        for (int odd : ODD) {
            due("up", x.up(odd), NONE);
        }
        due("up", x.up(0), 0);
        due("no commit", x.device(0, 6), 0);
        x.crash(0, 1);
        due("publish", x.publish(0), CRASHED);
        due("identity, and the block", x.device(0, 5), 7);
        due("entries", x.device(0, 4), 1);
        due("up", x.up(0), 1);
        due("terms", x.device(0, 5), 1);
        due("half", x.device(0, 6), 0);
        due("up", x.up(0), 0);
        due("publish", x.publish(0), 1);
    }
}
