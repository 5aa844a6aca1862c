/**
 * Promise 32, clause by clause. A letter that a clause is so for is not DERIVED while keys are kept
 * as told, so that leaked() is 0: the clauses are looked at inside the program (Pair), and each
 * letter's is told here.
 */
public final class LeakEdgesTest {
    private LeakEdgesTest() {
    }

    public static void main(String[] args) {
        takenBeforeAnyLook();
        lookedIntoTheSenderBefore();
        lookedIntoTheReceiverBefore();
        lookedIntoAnotherOne();
        withoutAOneTimeKey();
        notTaken();
        notToldThatItWasTaken();
        mineDrawnBehindTheLook();
        theirsDrawnBehindTheLook();
        theirsDrawnByTheAttacker();
        theirsDrawnAsAOneTimeKey();
        postedToNobodyLookedInto();
        theListAsItWasPosted();
        postTakenByAllOthers();
        postTakenByOneAlone();
        postTakenBehindALook();
        postWithAGiftWithoutAOneTimeKey();
        postToNobody();
        Check.end();
    }

    /** Of each letter, whether one of the clauses is so. */
    private static void clauses(Pair p, String what, int... due) {
        Check.due(what + ": letters", p.model.letters.size(), due.length);
        p.shelteredLetters();
        for (int l = 0; l < due.length; l++) {
            Check.due(what + ": letter " + l, p.model.sheltered(l) ? 1 : 0, due[l]);
        }
        p.totals();
        Check.due(what + ": leaked", p.house.leaked(), 0);
        Check.due(what + ": the program as the model", p.wrong ? 1 : 0, 0);
    }

    private static Pair published(int devices) {
        Pair p = new Pair();
        for (int d = 0; d < devices; d++) {
            p.publish(d);
        }
        return p;
    }

    private static void emptyPlaces(Pair p, int d) {
        for (int place = 1; place < 5; place++) {
            p.plant(d, place, -1);
        }
    }

    // ---- (1) "sent and taken before any look into its two ends, in a session with a one-time key"

    private static void takenBeforeAnyLook() {
        Pair p = published(2);
        p.send(0, 1);
        p.deliver(1, 0);
        clauses(p, "no look at all", 1);
        p.look(0);
        p.look(1);
        clauses(p, "taken before any look", 1);
        p.send(1, 0);
        p.deliver(0, 1);
        clauses(p, "sent behind the looks, by THEIRS of before", 1, 0);
    }

    private static void lookedIntoTheSenderBefore() {
        Pair p = published(2);
        p.send(0, 1);
        p.look(0);
        p.deliver(1, 0);
        clauses(p, "looked into the sender", 0);
    }

    private static void lookedIntoTheReceiverBefore() {
        Pair p = published(2);
        p.send(0, 1);
        p.look(1);
        p.deliver(1, 0);
        clauses(p, "looked into the receiver", 0);
    }

    private static void lookedIntoAnotherOne() {
        Pair p = published(2);
        p.look(2);
        p.send(0, 1);
        p.look(3);
        p.deliver(1, 0);
        p.look(0);
        p.look(1);
        clauses(p, "others are none of its ends", 1);
    }

    private static void withoutAOneTimeKey() {
        Pair p = published(2);
        emptyPlaces(p, 1);
        p.send(0, 1);
        p.deliver(1, 0);
        clauses(p, "its two keys were not looked at", 1);
        p.look(0);
        clauses(p, "there is no clause for it", 0);
    }

    private static void notTaken() {
        Pair p = published(2);
        p.send(0, 1);
        p.look(0);
        clauses(p, "it was not taken", 0);
    }

    private static void notToldThatItWasTaken() {
        Pair p = published(2);
        p.send(0, 1);
        p.crash(1, 3);
        Check.due("cut", p.deliver(1, 0), SealedHouse.CRASHED);
        p.look(0);
        clauses(p, "it is not told that it was taken", 0);
    }

    // ---- (2) "on a chain of two keys that its ends drew, each behind the last look into that end"

    private static void mineDrawnBehindTheLook() {
        Pair p = published(2);
        p.send(0, 1);
        p.deliver(1, 0);
        p.send(1, 0);
        p.deliver(0, 1);
        p.look(0);
        p.send(0, 1);
        clauses(p, "MINE is the first one drawn behind the look", 1, 1, 1);
        p.look(0);
        clauses(p, "the last look counts", 1, 1, 0);
        p.send(0, 1);
        clauses(p, "no other MINE since then", 1, 1, 0, 0);
    }

    private static void theirsDrawnBehindTheLook() {
        Pair p = new Pair();
        p.look(1);
        p.publish(1);
        p.send(0, 1);
        clauses(p, "THEIRS is the first one drawn behind the look", 1);
        p.look(1);
        clauses(p, "the last look counts", 0);
        Pair q = new Pair();
        q.publish(1);
        q.look(1);
        q.send(0, 1);
        clauses(q, "THEIRS was drawn ahead of the look", 0);
    }

    /** Place 0 of device 1 gets what register 1 has, as its PREKEY. */
    private static void plantAsPrekey(Pair p) {
        p.take(3, 3, 0);
        p.take(4, 1, 5);
        p.part(4, 4, 5);
        p.swap(4, 4, 0, 1);
        p.make(5, 12, 3, 4);
        p.plant(1, 0, 5);
    }

    private static void theirsDrawnByTheAttacker() {
        Pair p = new Pair();
        p.look(1);
        p.publish(1);
        p.draw(0);
        p.make(1, 10, 0, -1);
        plantAsPrekey(p);
        emptyPlaces(p, 1);
        Check.due("send", p.send(0, 1), 0);
        Check.due("derived", p.derived(0), 1);
        clauses(p, "THEIRS is the attacker's", 0);
    }

    /** "a key was drawn by d if THEIRS is PUBLIC of a SECRET that d drew as PREKEY or MINE" */
    private static void theirsDrawnAsAOneTimeKey() {
        Pair p = new Pair();
        p.look(1);
        p.publish(1);
        p.take(1, 1, 6);
        p.part(1, 1, 0);
        plantAsPrekey(p);
        Check.due("send", p.send(0, 1), 0);
        clauses(p, "THEIRS was drawn as a ONE-TIME key", 0);
    }

    // ---- (3) "posted by one whose list then had nobody who was looked into up to now"

    private static void postedToNobodyLookedInto() {
        Pair p = published(4);
        p.look(3);
        p.list(0, 7);
        p.post(0, 0);
        clauses(p, "3 is not in the list", 1);
        p.look(4);
        clauses(p, "nor is 4", 1);
        p.look(2);
        clauses(p, "2 is", 0);
        Pair q = published(4);
        q.look(3);
        q.list(0, 15);
        q.post(0, 0);
        clauses(q, "3 is in the list", 0);
    }

    /** "The list: MASK as it was posted." */
    private static void theListAsItWasPosted() {
        Pair p = published(4);
        p.list(0, 15);
        p.post(0, 0);
        p.list(0, 7);
        p.post(0, 0);
        clauses(p, "nobody was looked into", 1, 1);
        p.look(3);
        clauses(p, "3 was in the first list", 0, 1);
    }

    // ---- (4) "posted and taken by all others of that list before any look into one of its devices"

    /** Device 0 posts to 1 and 2: list wire 0, gifts 1 and 2, post 3. */
    private static Pair posted() {
        Pair p = published(3);
        p.list(0, 7);
        p.deliver(1, 0);
        p.deliver(2, 0);
        Check.due("post", p.post(0, 0), 3);
        p.deliver(1, 1);
        p.deliver(2, 2);
        return p;
    }

    private static void postTakenByAllOthers() {
        for (int d = 0; d < 3; d++) {
            Pair p = posted();
            p.look(5);
            Check.due("1 takes it", p.deliver(1, 3), 1);
            Check.due("2 takes it", p.deliver(2, 3), 1);
            p.look(d);
            clauses(p, "taken by all before a look into " + d, 1);
        }
    }

    private static void postTakenByOneAlone() {
        Pair p = posted();
        Check.due("1 takes it", p.deliver(1, 3), 1);
        p.look(1);
        clauses(p, "2 has not taken it", 0);
    }

    private static void postTakenBehindALook() {
        for (int d = 0; d < 3; d++) {
            Pair p = posted();
            Check.due("1 takes it", p.deliver(1, 3), 1);
            p.look(d);
            Check.due("2 takes it", p.deliver(2, 3), 1);
            clauses(p, "taken by all, but behind a look into " + d, 0);
        }
    }

    /** "all GIFTS of its key having come by sessions with a one-time key" */
    private static void postWithAGiftWithoutAOneTimeKey() {
        Pair p = published(3);
        emptyPlaces(p, 2);
        p.list(0, 7);
        p.deliver(1, 0);
        p.deliver(2, 0);
        p.post(0, 0);
        p.deliver(1, 1);
        p.deliver(2, 2);
        Check.due("1 takes it", p.deliver(1, 3), 1);
        Check.due("2 takes it", p.deliver(2, 3), 1);
        clauses(p, "nobody was looked into", 1);
        p.look(0);
        clauses(p, "the gift to 2 came without one", 0);
    }

    private static void postToNobody() {
        Pair p = published(1);
        p.list(0, 1);
        p.post(0, 0);
        p.look(0);
        clauses(p, "there are no others to take it", 1);
        p.post(0, 0);
        clauses(p, "posted behind a look", 1, 0);
    }
}
