/** Part IV, sentence by sentence: lists, keys of groups, posts. */
public final class GroupEdgesTest {
    private static final int NONE = SealedHouse.NONE;
    private static final int DOWN = SealedHouse.DOWN;
    private static final int CRASHED = SealedHouse.CRASHED;
    private static final int MAX = Integer.MAX_VALUE;

    private GroupEdgesTest() {
    }

    public static void main(String[] args) {
        groupsOfDevices();
        masks();
        listLacksTheOwner();
        listHasOneThatIsGone();
        listRefused();
        goneAddsUp();
        staleIfAnyGo();
        whatWasGivenByThemGoes();
        whoeverGoes();
        listToTheOwner();
        listSignedByAnother();
        listOfAnOldVersion();
        listLacksTheOwnerOrD();
        listWithOneThatIsGone();
        postWithoutAList();
        postDrawsAtFirst();
        postDrawsWhenStale();
        giftsGoUpward();
        giftsGoOnce();
        giftsHaveTheIndex();
        giftsPassOver();
        giftsGoByTheFirstSession();
        postRefused();
        postOfItsOwn();
        postFromOutsideTheMask();
        postWithoutAKey();
        postOfTheOlderKey();
        keysOfTheLastDevice();
        aKeyComesNew();
        postSignedByAnother();
        postSkipsFive();
        postLeavesEight();
        postLeftKeyGoes();
        postBelowNext();
        postAtTheLastIndex();
        postWithTheWrongKey();
        postWithTheWrongBody();
        Check.end();
    }

    private static void groupIs(Twins t, int d, int g, int... due) {
        for (int what = 0; what < due.length; what++) {
            int asked = what;
            t.due("group " + g + " of " + d + ", what " + what, x -> x.group(d, g, asked),
                    due[what]);
        }
    }

    /** "GROUP g belongs to DEVICE g." and "GROUPS 0 .. 3" */
    private static void groupsOfDevices() {
        Twins t = new Twins();
        for (int g : new int[] {Integer.MIN_VALUE, -1, 4, 5, MAX}) {
            t.refused("no group", x -> x.list(g, 63), NONE);
            t.refused("no group", x -> x.post(0, g), NONE);
        }
        for (int g = 0; g < 4; g++) {
            int of = g;
            t.due("list", x -> x.list(of, 1 << of), g);
            groupIs(t, g, g, 1, 1 << g, 0, 0, 0, 0, 0);
            groupIs(t, (g + 1) % 4, g, 0, 0, 0, 0, 0, 0, 0);
        }
        t.end();
    }

    /** "with this mask (0 .. 63)" */
    private static void masks() {
        Twins t = new Twins();
        for (int mask : new int[] {Integer.MIN_VALUE, -1, 64, 65, MAX}) {
            t.refused("mask " + mask, x -> x.list(0, mask), NONE);
        }
        t.refused("mask 0", x -> x.list(0, 0), -6);
        t.due("mask 63", x -> x.list(0, 63), 0);
        groupIs(t, 0, 0, 1, 63);
        t.due("mask 1", x -> x.list(0, 1), 1);
        groupIs(t, 0, 0, 2, 1, 62);
        t.end();
    }

    /** "-6: the mask lacks the owner" */
    private static void listLacksTheOwner() {
        for (int g = 0; g < 4; g++) {
            int of = g;
            Twins t = new Twins();
            t.refused("all but the owner", x -> x.list(of, 63 & ~(1 << of)), -6);
            t.due("the owner alone", x -> x.list(of, 1 << of), 0);
            t.refused("all but the owner", x -> x.list(of, 63 & ~(1 << of)), -6);
            t.end();
        }
    }

    /** "or has one that is GONE" */
    private static void listHasOneThatIsGone() {
        Twins t = new Twins();
        t.due("list", x -> x.list(0, 0b000111), 0);
        t.due("2 goes", x -> x.list(0, 0b000011), 1);
        t.refused("2 is GONE", x -> x.list(0, 0b000111), -6);
        t.refused("2 is GONE", x -> x.list(0, 63), -6);
        t.due("others may come", x -> x.list(0, 0b111011), 2);
        t.due("1 goes", x -> x.list(0, 0b111001), 3);
        t.refused("1 is GONE", x -> x.list(0, 0b111011), -6);
        t.refused("2 is GONE still", x -> x.list(0, 0b111101), -6);
        groupIs(t, 0, 0, 4, 0b111001, 0b000110, 0, 0, 0, 1);
        t.end();
    }

    private static void listRefused() {
        Twins t = Twins.published(1);
        t.due("crash", x -> x.crash(0, 0), 1);
        t.due("cut", x -> x.list(0, 1), CRASHED);
        t.due("no wire", x -> x.count(0), 0);
        groupIs(t, 0, 0, 0, 0);
        t.refused("DOWN", x -> x.list(0, 1), DOWN);
        t.refused("DOWN comes ahead of -6", x -> x.list(0, 0), DOWN);
        t.refused("NONE comes ahead of DOWN", x -> x.list(0, 64), NONE);
        t.due("of another owner", x -> x.list(1, 3), 0);
        t.end();
    }

    /** "those of the old MASK that are not in the new one are GONE, too" */
    private static void goneAddsUp() {
        Twins t = new Twins();
        int[] masks = {0b111111, 0b111111, 0b011111, 0b001111, 0b000001};
        int[] gone = {0, 0, 0b100000, 0b110000, 0b111110};
        for (int i = 0; i < masks.length; i++) {
            int at = i;
            t.due("list", x -> x.list(0, masks[at]), i);
            groupIs(t, 0, 0, i + 1, masks[i], gone[i]);
        }
        t.due("1 takes the first", x -> x.deliver(1, 0), 3);
        t.due("and the fourth", x -> x.deliver(1, 3), 3);
        groupIs(t, 1, 0, 4, 0b001111, 0b110000);
        t.due("2 takes the third alone", x -> x.deliver(2, 2), 3);
        groupIs(t, 2, 0, 3, 0b011111, 0);
        t.end();
    }

    /** "if there are any it is STALE" */
    private static void staleIfAnyGo() {
        Twins t = Twins.published(3);
        t.due("list", x -> x.list(0, 0b000011), 0);
        t.due("post", x -> x.post(0, 0), 2);
        groupIs(t, 0, 0, 1, 3, 0, 1, 1, 2, 0);
        t.due("the same mask", x -> x.list(0, 0b000011), 3);
        groupIs(t, 0, 0, 2, 3, 0, 1, 1, 2, 0);
        t.due("one more", x -> x.list(0, 0b000111), 4);
        groupIs(t, 0, 0, 3, 7, 0, 1, 1, 2, 0);
        t.due("one goes, one comes", x -> x.list(0, 0b001011), 5);
        groupIs(t, 0, 0, 4, 11, 4, 1, 1, 2, 1);
        t.due("nobody goes", x -> x.list(0, 0b001011), 6);
        groupIs(t, 0, 0, 5, 11, 4, 1, 1, 2, 1);
        t.end();
    }

    /** "and what was given by them goes" */
    private static void whatWasGivenByThemGoes() {
        Twins t = Twins.published(4);
        t.due("list", x -> x.list(0, 15), 0);
        for (int d = 1; d < 4; d++) {
            int who = d;
            t.due("list", x -> x.deliver(who, 0), 3);
        }
        t.due("post of 1", x -> x.post(1, 0), 4);
        t.due("post of 1", x -> x.post(1, 0), 5);
        t.due("post of 2", x -> x.post(2, 0), 9);
        t.due("gift of 1", x -> x.deliver(3, 3), 2);
        t.due("gift of 2", x -> x.deliver(3, 8), 2);
        t.due("post of 1", x -> x.deliver(3, 5), 1);
        t.due("a LEFT key", x -> x.group(3, 0, 41), 1);
        t.due("entries", x -> x.device(3, 4), 6 - 2 + 5 + 5 + 2 + 1);
        t.due("1 goes", x -> x.list(0, 13), 10);
        t.due("list", x -> x.deliver(3, 10), 3);
        t.due("none of 1", x -> x.group(3, 0, 11), 0);
        t.refused("no generation", x -> x.group(3, 0, 21), NONE);
        t.due("that of 2 stays", x -> x.group(3, 0, 12), 1);
        t.due("entries", x -> x.device(3, 4), 6 - 2 + 5 + 5 + 1);
        t.refused("a post of 1", x -> x.deliver(3, 4), -17);
        t.due("a post of 2", x -> x.deliver(3, 9), 1);
        t.end();
    }

    private static void whoeverGoes() {
        int[] leaving = {0, 1, 3, 5};
        for (int p : leaving) {
            Twins t = Twins.published(6);
            t.due("list", x -> x.list(2, 63), 0);
            t.due("list", x -> x.deliver(p, 0), 3);
            t.due("list", x -> x.deliver(4, 0), 3);
            t.due("post", x -> x.post(p, 2), 6);
            t.due("gift", x -> x.deliver(4, p > 4 ? 5 : 4), 2);
            t.due("keys", x -> x.group(4, 2, 10 + p), 1);
            t.due("list", x -> x.list(2, 63 & ~(1 << p)), 7);
            t.due("list", x -> x.deliver(4, 7), 3);
            t.due("none", x -> x.group(4, 2, 10 + p), 0);
            groupIs(t, 4, 2, 2, 63 & ~(1 << p), 1 << p, 0, 0, 0, 1);
            t.refused("a post of it", x -> x.deliver(4, 6), -17);
            t.end();
        }
    }

    /** "(-16) if d is the group's owner" */
    private static void listToTheOwner() {
        Twins t = Twins.published(1);
        t.due("list", x -> x.list(0, 63), 0);
        t.refused("its own", x -> x.deliver(0, 0), -16);
        t.run(x -> Forge.identity(x, 0));
        t.run(x -> Forge.list(x, 0, 2, 63));
        t.refused("a later one", x -> x.inject(0, Forge.MADE), -16);
        t.due("to another one", x -> x.inject(1, Forge.MADE), 3);
        t.end();
    }

    /** "s is not the owner's IDENTITY" */
    private static void listSignedByAnother() {
        Twins t = Twins.published(2);
        t.run(x -> Forge.identity(x, 1));
        t.run(x -> Forge.list(x, 0, 1, 63));
        t.refused("by another device", x -> x.inject(2, Forge.MADE), -16);
        t.run(x -> x.draw(Forge.IDENTITY));
        t.run(x -> Forge.list(x, 0, 1, 63));
        t.refused("by nobody", x -> x.inject(2, Forge.MADE), -16);
        t.run(x -> Forge.identity(x, 0));
        t.run(x -> Forge.list(x, 0, 1, 63));
        t.due("by the owner", x -> x.inject(2, Forge.MADE), 3);
        t.end();
    }

    private static Twins withOwner() {
        Twins t = Twins.published(1);
        t.run(x -> Forge.identity(x, 0));
        return t;
    }

    private static void listComes(Twins t, String what, int version, int mask, int want) {
        t.run(x -> Forge.list(x, 0, version, mask));
        if (want < 0) {
            t.refused(what, x -> x.inject(2, Forge.MADE), want);
        } else {
            t.due(what, x -> x.inject(2, Forge.MADE), want);
        }
    }

    /** "the version is not above d's" */
    private static void listOfAnOldVersion() {
        Twins t = withOwner();
        listComes(t, "version 0", 0, 63, -10);
        listComes(t, "above 0", 1, 63, 3);
        listComes(t, "the same", 1, 63, -16);
        listComes(t, "one above", 2, 63, 3);
        listComes(t, "below", 1, 63, -16);
        listComes(t, "far above", MAX, 63, 3);
        listComes(t, "the same", MAX, 63, -16);
        listComes(t, "below", MAX - 1, 63, -16);
        listComes(t, "no GOOD ROW", Integer.MIN_VALUE, 63, -10);
        groupIs(t, 2, 0, MAX, 63, 0);
        t.end();
    }

    /** "the mask lacks the owner or d" */
    private static void listLacksTheOwnerOrD() {
        Twins t = withOwner();
        listComes(t, "nobody", 1, 0, -16);
        listComes(t, "without the owner", 1, 0b111110, -16);
        listComes(t, "without d", 1, 0b111011, -16);
        listComes(t, "these two alone", 1, 0b000101, 3);
        listComes(t, "d alone", 2, 0b000100, -16);
        listComes(t, "the owner alone", 2, 0b000001, -16);
        groupIs(t, 2, 0, 1, 5, 0, 0, 0, 0, 0);
        t.end();
    }

    /** "or has one that is GONE" */
    private static void listWithOneThatIsGone() {
        Twins t = withOwner();
        listComes(t, "list", 1, 0b111111, 3);
        listComes(t, "5 goes", 2, 0b011111, 3);
        listComes(t, "5 is GONE", 3, 0b111111, -16);
        listComes(t, "5 is GONE", MAX, 0b100101, -16);
        listComes(t, "4 goes", 3, 0b001111, 3);
        listComes(t, "5 is GONE still", 4, 0b101111, -16);
        groupIs(t, 2, 0, 3, 0b001111, 0b110000, 0, 0, 0, 1);
        t.end();
    }

    /** "-6: its VERSION is 0" */
    private static void postWithoutAList() {
        Twins t = Twins.published(2);
        t.refused("the owner", x -> x.post(0, 0), -6);
        t.due("list", x -> x.list(0, 3), 0);
        t.refused("one to whom it has not come", x -> x.post(1, 0), -6);
        t.refused("of another group", x -> x.post(0, 1), -6);
        t.due("list", x -> x.deliver(1, 0), 3);
        t.due("post", x -> x.post(1, 0), 2);
        t.end();
    }

    /** "if GENERATION is 0, or it is STALE: .. CHAIN and SIGNER are drawn, INDEX 0" */
    private static void postDrawsAtFirst() {
        Twins t = Twins.published(1);
        t.due("list", x -> x.list(0, 1), 0);
        int[] draws = {3, 1, 1};
        for (int i = 0; i < draws.length; i++) {
            int at = i;
            t.run(x -> {
                int before = x.count(2);
                Check.due("post", x.post(0, 0), 1 + at);
                Check.due("DRAWS", x.count(2) - before, draws[at]);
            });
            groupIs(t, 0, 0, 1, 1, 0, 1, i + 1, 0, 0);
        }
        t.end();
    }

    private static void postDrawsWhenStale() {
        Twins t = Twins.published(3);
        t.due("list", x -> x.list(0, 7), 0);
        t.due("post", x -> x.post(0, 0), 3);
        t.due("post", x -> x.post(0, 0), 4);
        groupIs(t, 0, 0, 1, 7, 0, 1, 2, 6, 0);
        t.due("1 goes", x -> x.list(0, 5), 5);
        groupIs(t, 0, 0, 2, 5, 2, 1, 2, 6, 1);
        t.run(x -> {
            int before = x.count(2);
            Check.due("a gift to 2, the post", x.post(0, 0), 7);
            Check.due("CHAIN, SIGNER, a letter", x.count(2) - before, 3);
        });
        groupIs(t, 0, 0, 2, 5, 2, 2, 1, 4, 0);
        t.due("post", x -> x.post(0, 0), 8);
        groupIs(t, 0, 0, 2, 5, 2, 2, 2, 4, 0);
        t.end();
        // STALE ahead of the first post: one generation, not two
        Twins u = Twins.published(1);
        u.due("list", x -> x.list(0, 3), 0);
        u.due("1 goes", x -> x.list(0, 1), 1);
        groupIs(u, 0, 0, 2, 1, 2, 0, 0, 0, 1);
        u.due("post", x -> x.post(0, 0), 2);
        groupIs(u, 0, 0, 2, 1, 2, 1, 1, 0, 0);
        u.end();
    }

    private static void headIs(Twins t, int w, int... numbers) {
        t.run(x -> x.take(0, 0, w));
        t.run(x -> x.part(0, 0, 5));
        t.run(x -> x.part(0, 0, 4));
        for (int i = 0; i < numbers.length; i++) {
            int at = i;
            t.due("wire " + w + ", number " + i, x -> x.about(0, 2 + at), numbers[i]);
        }
    }

    /** "Then to each other device of MASK, upward" */
    private static void giftsGoUpward() {
        Twins t = Twins.published(6);
        t.due("list", x -> x.list(3, 63), 0);
        t.due("five gifts, the post", x -> x.post(3, 3), 6);
        int[] to = {0, 1, 2, 4, 5};
        for (int i = 0; i < to.length; i++) {
            headIs(t, i + 1, 3, to[i]);
        }
        headIs(t, 6, 3, 3, 1, 0);
        groupIs(t, 3, 3, 1, 63, 0, 1, 1, 0b110111, 0);
        t.end();
        Twins u = Twins.published(6);
        u.due("list", x -> x.list(3, 0b101010), 0);
        u.due("two gifts, the post", x -> x.post(3, 3), 3);
        headIs(u, 1, 3, 1);
        headIs(u, 2, 3, 5);
        u.end();
    }

    /** "to which it didn't give the key" */
    private static void giftsGoOnce() {
        Twins t = Twins.published(4);
        t.due("list", x -> x.list(0, 3), 0);
        t.due("post", x -> x.post(0, 0), 2);
        t.due("no gift", x -> x.post(0, 0), 3);
        t.due("list", x -> x.list(0, 15), 4);
        t.due("two gifts", x -> x.post(0, 0), 7);
        headIs(t, 5, 0, 2);
        headIs(t, 6, 0, 3);
        groupIs(t, 0, 0, 2, 15, 0, 1, 3, 14, 0);
        t.due("no gift", x -> x.post(0, 0), 8);
        t.end();
    }

    /** "it sends ROW 5 (g, GENERATION, INDEX; CHAIN, PUBLIC(SIGNER))" */
    private static void giftsHaveTheIndex() {
        Twins t = Twins.published(3);
        t.due("list", x -> x.list(0, 3), 0);
        t.due("post", x -> x.post(0, 0), 2);
        t.due("post", x -> x.post(0, 0), 3);
        t.due("list", x -> x.list(0, 7), 4);
        t.due("post", x -> x.post(0, 0), 6);
        t.due("list", x -> x.deliver(2, 4), 3);
        t.due("gift", x -> x.deliver(2, 5), 2);
        t.due("NEXT", x -> x.group(2, 0, 30), 2);
        t.refused("a post of before it", x -> x.deliver(2, 3), -13);
        t.due("the one it came with", x -> x.deliver(2, 6), 1);
        t.due("NEXT", x -> x.group(2, 0, 30), 3);
        t.end();
    }

    /** "where it can't, this device is passed over" */
    private static void giftsPassOver() {
        Twins t = Twins.published(2);
        t.due("list", x -> x.list(0, 7), 0);
        t.due("none to 2", x -> x.post(0, 0), 2);
        headIs(t, 1, 0, 1);
        groupIs(t, 0, 0, 1, 7, 0, 1, 1, 2, 0);
        t.due("none to 2 still", x -> x.post(0, 0), 3);
        t.due("publish", x -> x.publish(2), 1);
        t.due("now there is", x -> x.post(0, 0), 5);
        headIs(t, 4, 0, 2);
        groupIs(t, 0, 0, 1, 7, 0, 1, 3, 6, 0);
        t.end();
        Twins u = new Twins();
        u.due("list", x -> x.list(0, 63), 0);
        u.due("to nobody at all", x -> x.post(0, 0), 1);
        groupIs(u, 0, 0, 1, 63, 0, 1, 1, 0, 0);
        u.end();
    }

    /** "in the first session with it (without one it begins one ..)" */
    private static void giftsGoByTheFirstSession() {
        Twins t = Twins.published(2);
        t.due("send", x -> x.send(0, 1), 0);
        t.due("begin", x -> x.begin(0, 1), 2);
        t.due("list", x -> x.list(0, 3), 1);
        t.run(x -> {
            int before = x.count(2);
            Check.due("post", x.post(0, 0), 3);
            Check.due("it begins none", x.count(2) - before, 3);
        });
        t.due("N of the first", x -> x.session(0, 1, 0, 0), 1);
        t.due("N of the second", x -> x.session(0, 1, 1, 0), 1);
        t.due("gift", x -> x.deliver(1, 2), 2);
        t.end();
        Twins u = Twins.published(2);
        u.due("list", x -> x.list(0, 3), 0);
        u.due("send", x -> x.send(1, 0), 1);
        u.due("deliver", x -> x.deliver(0, 1), 1);
        u.run(x -> {
            int before = x.count(2);
            Check.due("post", x.post(0, 0), 3);
            Check.due("CHAIN, SIGNER, MINE, a letter", x.count(2) - before, 4);
        });
        u.end();
    }

    private static void postRefused() {
        Twins t = Twins.published(2);
        t.due("list", x -> x.list(0, 3), 0);
        t.refused("device -1", x -> x.post(-1, 0), NONE);
        t.refused("device 6", x -> x.post(6, 0), NONE);
        t.refused("group -1", x -> x.post(0, -1), NONE);
        t.refused("group 4", x -> x.post(0, 4), NONE);
        t.refused("of the last group, the last device", x -> x.post(5, 3), -6);
        t.due("crash", x -> x.crash(0, 0), 1);
        t.due("cut", x -> x.post(0, 0), CRASHED);
        groupIs(t, 0, 0, 1, 3, 0, 0, 0, 0, 0);
        t.refused("DOWN", x -> x.post(0, 0), DOWN);
        t.refused("DOWN comes ahead of -6", x -> x.post(0, 1), DOWN);
        t.refused("NONE comes ahead of DOWN", x -> x.post(0, 4), NONE);
        t.due("up", x -> x.up(0), 1);
        t.due("post", x -> x.post(0, 0), 2);
        t.end();
    }

    /** "(-11) if its device is d" */
    private static void postOfItsOwn() {
        Twins t = Twins.published(2);
        t.due("list", x -> x.list(0, 3), 0);
        t.due("post", x -> x.post(0, 0), 2);
        t.refused("its own", x -> x.deliver(0, 2), -11);
        t.refused("ahead of what it lacks", x -> x.deliver(1, 2), -17);
        t.end();
    }

    /** "(-17) if that is not in d's MASK of the group (or VERSION is 0)" */
    private static void postFromOutsideTheMask() {
        Twins t = Twins.published(3);
        t.due("list", x -> x.list(0, 7), 0);
        t.due("list", x -> x.deliver(1, 0), 3);
        t.due("post of 1", x -> x.post(1, 0), 3);
        t.due("gift", x -> x.deliver(2, 2), 2);
        t.refused("VERSION is 0", x -> x.deliver(2, 3), -17);
        t.due("1 goes", x -> x.list(0, 5), 4);
        t.due("list", x -> x.deliver(2, 4), 3);
        t.due("the key is there, as 1 was in no list of 2", x -> x.group(2, 0, 11), 1);
        t.refused("1 is not in MASK", x -> x.deliver(2, 3), -17);
        t.end();
        Twins u = Twins.published(3);
        u.due("list", x -> x.list(0, 7), 0);
        u.due("list", x -> x.deliver(1, 0), 3);
        u.due("post of 1", x -> x.post(1, 0), 3);
        u.due("gift", x -> x.deliver(2, 2), 2);
        u.due("list", x -> x.deliver(2, 0), 3);
        u.due("1 is in MASK", x -> x.deliver(2, 3), 1);
        u.end();
    }

    /** "or d has no key of it with this generation" */
    private static void postWithoutAKey() {
        Twins t = given(3, 0);
        for (int generation : new int[] {1, 2, 4, MAX}) {
            t.run(x -> postAt(x, generation, 0, 0));
            t.refused("generation " + generation, x -> x.inject(1, Forge.MADE), -17);
        }
        t.run(x -> postAt(x, 3, 0, 0));
        t.run(x -> Forge.row(x, 0, 7, 1, 0, 3, 0));
        t.run(x -> x.seal(1, Forge.KEY, 0, Forge.BODY));
        t.run(x -> x.make(1, 12, Forge.SIGNER, 1));
        t.refused("of another group", x -> x.inject(1, 1), -17);
        t.due("generation 3", x -> x.inject(1, Forge.MADE), 1);
        t.end();
    }

    /** "at most two keys that were given" */
    private static void postOfTheOlderKey() {
        Twins t = Twins.published(4);
        t.due("list", x -> x.list(0, 15), 0);
        t.due("list", x -> x.deliver(1, 0), 3);
        int[] masks = {15, 7, 3};
        int[] posts = new int[3];
        for (int i = 0; i < 3; i++) {
            int at = i;
            if (i > 0) {
                t.run(x -> x.list(0, masks[at]));
            }
            t.run(x -> posts[at] = x.post(0, 0));
        }
        Check.all("posts", posts, 4, 8, 11);
        t.due("gift", x -> x.deliver(1, 1), 2);
        t.due("gift", x -> x.deliver(1, 6), 2);
        t.due("two", x -> x.group(1, 0, 10), 2);
        t.due("of the first generation", x -> x.deliver(1, 4), 1);
        t.due("NEXT is that of the first key", x -> x.group(1, 0, 30), 0);
        t.due("of the second generation", x -> x.deliver(1, 8), 1);
        t.due("NEXT", x -> x.group(1, 0, 30), 1);
        t.due("post", x -> x.post(0, 0), 12);
        t.due("gift", x -> x.deliver(1, 10), 2);
        t.due("two", x -> x.group(1, 0, 10), 2);
        t.refused("the oldest key went", x -> x.deliver(1, 4), -17);
        t.refused("this one is there", x -> x.deliver(1, 8), -13);
        t.due("of the third generation", x -> x.deliver(1, 12), 1);
        t.end();
    }

    private static void keysOfTheLastDevice() {
        Twins t = Twins.published(6);
        t.due("list", x -> x.list(3, 63), 0);
        t.due("list", x -> x.deliver(5, 0), 3);
        t.due("post", x -> x.post(5, 3), 6);
        t.due("post", x -> x.post(5, 3), 7);
        t.due("0 goes", x -> x.list(3, 62), 8);
        t.due("list", x -> x.deliver(5, 8), 3);
        t.due("post", x -> x.post(5, 3), 13);
        t.due("post", x -> x.post(5, 3), 14);
        t.due("1 goes", x -> x.list(3, 60), 15);
        t.due("list", x -> x.deliver(5, 15), 3);
        t.due("post", x -> x.post(5, 3), 19);
        t.due("list", x -> x.deliver(4, 15), 3);
        t.due("gift", x -> x.deliver(4, 5), 2);
        t.due("gift", x -> x.deliver(4, 12), 2);
        t.due("of the second key", x -> x.deliver(4, 14), 1);
        int[] due = {2, 2, 2, 1};
        for (int i = 0; i < due.length; i++) {
            int what = 15 + 10 * i;
            t.due("what " + what, x -> x.group(4, 3, what), due[i]);
        }
        t.refused("of a third key", x -> x.deliver(4, 19), -17);
        t.due("of the first key", x -> x.deliver(4, 7), 1);
        t.end();
    }

    private static void aKeyComesNew() {
        Twins t = Twins.published(6);
        t.due("list", x -> x.list(0, 63), 0);
        t.due("list", x -> x.deliver(1, 0), 3);
        int[] posts = new int[4];
        for (int i = 0; i < 4; i++) {
            int at = i;
            t.run(x -> {
                posts[at] = x.post(0, 0);
                x.post(0, 0);
                Check.due("gift", x.deliver(1, posts[at] - 5 + at), 2);
                Check.all("NEXT, LEFT", Check.answers(x.group(1, 0, 30), x.group(1, 0, 40)), 0, 0);
                Check.due("one ahead", x.deliver(1, posts[at] + 1), 1);
                Check.all("NEXT, LEFT", Check.answers(x.group(1, 0, 30), x.group(1, 0, 40)), 2, 1);
                Check.due("one goes", x.list(0, (1 << (5 - at)) - 1), posts[at] + 2);
            });
        }
        t.end();
    }

    // ---- posts that the attacker makes

    /** Device 1 has a list of group 0, and from device 0 a key that the attacker drew. */
    private static Twins given(int generation, int index) {
        Twins t = Twins.published(2);
        t.run(x -> Forge.begin(x, 0, 1, 0));
        t.run(x -> Forge.list(x, 0, 1, 63));
        t.due("a list", x -> x.inject(1, Forge.MADE), 3);
        t.run(x -> {
            x.draw(18);
            Forge.turn(x, 18);
            Forge.key(x, 0);
            Forge.head(x, 0, 1, 0, 0);
            Forge.bears(x, false);
            x.draw(Forge.CHAIN);
            x.draw(Forge.SIGNER);
            Forge.gift(x, 0, generation, index);
            Forge.seal(x);
        });
        t.due("a gift", x -> x.inject(1, Forge.MADE), 2);
        return t;
    }

    /** A post at an index, which lies some steps behind the one that was given. */
    private static void postAt(SealedHouse x, int generation, int index, int steps) {
        Forge.key(x, steps);
        Forge.post(x, 0, 0, generation, index);
    }

    private static void postComes(Twins t, String what, int index, int want) {
        t.run(x -> postAt(x, 1, index, index));
        if (want < 0) {
            t.refused(what, x -> x.inject(1, Forge.MADE), want);
        } else {
            t.due(what, x -> x.inject(1, Forge.MADE), want);
        }
    }

    private static void keyIs(Twins t, int next, int left) {
        t.due("NEXT", x -> x.group(1, 0, 30), next);
        t.due("LEFT", x -> x.group(1, 0, 40), left);
    }

    /** "(-14) if PUBLIC(s) is not the key's PUBLIC" */
    private static void postSignedByAnother() {
        Twins t = given(1, 0);
        t.run(x -> postAt(x, 1, 0, 0));
        t.run(x -> x.part(0, Forge.MADE, 5));
        t.run(x -> x.draw(1));
        t.run(x -> x.make(2, 12, 1, 0));
        t.run(x -> x.make(3, 12, Forge.IDENTITY, 0));
        t.refused("by another SECRET", x -> x.inject(1, 2), -14);
        t.refused("by the IDENTITY", x -> x.inject(1, 3), -14);
        t.run(x -> postAt(x, 1, 6, 6));
        t.run(x -> x.part(0, Forge.MADE, 5));
        t.run(x -> x.make(2, 12, 1, 0));
        t.refused("it comes ahead of -13", x -> x.inject(1, 2), -14);
        t.run(x -> postAt(x, 1, 0, 0));
        t.due("by the SIGNER", x -> x.inject(1, Forge.MADE), 1);
        t.end();
    }

    /** "then, of the index, as Part III says of N (a LEFT key; -13; SKIPS, with this CHAIN)" */
    private static void postSkipsFive() {
        Twins t = given(1, 0);
        postComes(t, "six above 0", 6, -13);
        postComes(t, "five above 0", 5, 1);
        keyIs(t, 6, 5);
        postComes(t, "six above 6", 12, -13);
        postComes(t, "none above 6", 6, 1);
        keyIs(t, 7, 5);
        t.end();
        Twins u = given(1, 100);
        u.run(x -> postAt(x, 1, 106, 6));
        u.refused("six above 100", x -> x.inject(1, Forge.MADE), -13);
        u.run(x -> postAt(x, 1, 105, 5));
        u.due("five above 100", x -> x.inject(1, Forge.MADE), 1);
        keyIs(u, 106, 5);
        u.run(x -> postAt(x, 1, 99, 0));
        u.refused("one below 100", x -> x.inject(1, Forge.MADE), -13);
        u.end();
    }

    /** "up to eight LEFT keys (an index, a key)" */
    private static void postLeavesEight() {
        Twins t = given(1, 0);
        postComes(t, "five are left", 5, 1);
        postComes(t, "three more", 9, 1);
        keyIs(t, 10, 8);
        postComes(t, "the oldest of eight", 0, 1);
        keyIs(t, 10, 7);
        postComes(t, "one more", 11, 1);
        keyIs(t, 12, 8);
        t.end();
        Twins u = given(1, 0);
        postComes(u, "five are left", 5, 1);
        postComes(u, "four more", 10, 1);
        keyIs(u, 11, 8);
        postComes(u, "the oldest of nine went", 0, -13);
        postComes(u, "the second one did not", 1, 1);
        postComes(u, "nor did the last one", 9, 1);
        keyIs(u, 11, 6);
        u.end();
    }

    private static void postLeftKeyGoes() {
        Twins t = given(1, 0);
        postComes(t, "two are left", 2, 1);
        postComes(t, "one of them", 1, 1);
        keyIs(t, 3, 1);
        postComes(t, "it went", 1, -13);
        t.run(x -> postAt(x, 1, 0, 1));
        t.refused("the key of another index", x -> x.inject(1, Forge.MADE), -14);
        postComes(t, "the other one", 0, 1);
        keyIs(t, 3, 0);
        t.end();
    }

    private static void postBelowNext() {
        Twins t = given(1, 0);
        postComes(t, "the next", 0, 1);
        postComes(t, "one below", 0, -13);
        postComes(t, "the next", 1, 1);
        postComes(t, "two below", 0, -13);
        keyIs(t, 2, 0);
        t.end();
    }

    private static void postAtTheLastIndex() {
        Twins t = given(1, 9_998);
        t.run(x -> postAt(x, 1, 10_000, 2));
        t.refused("no GOOD ROW", x -> x.inject(1, Forge.MADE), -10);
        t.run(x -> postAt(x, 1, 9_999, 1));
        t.due("the last one", x -> x.inject(1, Forge.MADE), 1);
        keyIs(t, 10_000, 1);
        t.refused("again", x -> x.inject(1, Forge.MADE), -13);
        t.run(x -> postAt(x, 1, 10_000, 2));
        t.refused("no GOOD ROW, though it is NEXT", x -> x.inject(1, Forge.MADE), -10);
        t.run(x -> postAt(x, 1, 9_998, 0));
        t.due("the one that was left", x -> x.inject(1, Forge.MADE), 1);
        keyIs(t, 10_000, 0);
        t.end();
    }

    /** "(-14) if k is not the key" */
    private static void postWithTheWrongKey() {
        Twins t = given(1, 0);
        t.run(x -> postAt(x, 1, 0, 1));
        t.refused("the next one's", x -> x.inject(1, Forge.MADE), -14);
        t.run(x -> postAt(x, 1, 5, 4));
        t.refused("five ahead", x -> x.inject(1, Forge.MADE), -14);
        t.run(x -> {
            x.seal(0, Forge.HEAD, Forge.HEAD, Forge.HEAD);
            x.make(0, 12, Forge.SIGNER, 0);
        });
        t.refused("ahead of -15", x -> x.inject(1, 0), -14);
        keyIs(t, 0, 0);
        postComes(t, "the key", 0, 1);
        t.end();
    }

    /** "(-15) if b is no GOOD ROW 4" */
    private static void postWithTheWrongBody() {
        Twins t = given(1, 0);
        t.run(x -> {
            Forge.key(x, 0);
            Forge.row(x, Forge.HEAD, 7, 0, 0, 1, 0);
            Forge.gift(x, 0, 2, 0);
            x.seal(0, Forge.KEY, Forge.HEAD, Forge.BODY);
            x.make(0, 12, Forge.SIGNER, 0);
            Forge.letter(x);
            x.alter(1, Forge.BODY, 3, 1);
            x.seal(1, Forge.KEY, Forge.HEAD, 1);
            x.make(1, 12, Forge.SIGNER, 1);
            x.seal(2, Forge.KEY, Forge.HEAD, Forge.KEY);
            x.make(2, 12, Forge.SIGNER, 2);
        });
        t.refused("ROW 5", x -> x.inject(1, 0), -15);
        t.refused("ROW 4 with a number", x -> x.inject(1, 1), -15);
        t.refused("no ROW", x -> x.inject(1, 2), -15);
        keyIs(t, 0, 0);
        postComes(t, "ROW 4", 0, 1);
        t.due("by the group", x -> x.taken(1, 2), 0);
        t.due("no letter's SECRET", x -> x.taken(1, 0), NONE);
        t.end();
    }
}
