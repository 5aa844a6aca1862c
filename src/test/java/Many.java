/** Brings an object to a number of wires in less than 512 calls; each answers its calls. */
final class Many {
    private Many() {
    }

    static int wires(SealedHouse x, int wanted) {
        int calls = groups(x, 4);
        return calls + sends(x, wanted);
    }

    /** All devices publish and post to the first groups, which lose one device after the other. */
    static int groups(SealedHouse x, int groups) {
        int calls = 6;
        for (int d = 0; d < 6; d++) {
            x.publish(d);
        }
        for (int g = 0; g < groups; g++) {
            int mask = 63;
            for (int gone = 5; mask != 0; gone = gone == g + 1 ? g - 1 : gone - 1) {
                calls += everybodyPosts(x, g, mask, mask, mask);
                mask = mask == 1 << g ? 0 : mask & ~(1 << gone);
            }
        }
        return calls;
    }

    static int sends(SealedHouse x, int wanted) {
        int calls = 0;
        for (int w = x.count(0); w < wanted; w++) {
            Check.due("send", x.send(0, 1), w);
            calls++;
        }
        Check.due("wires", x.count(0), wanted);
        return calls;
    }

    /** A new list comes to its takers, and each of the posters posts, with gifts to all. */
    static int everybodyPosts(SealedHouse x, int g, int mask, int takers, int posters) {
        int w = x.list(g, mask);
        int calls = 1;
        for (int d = 0; d < 6; d++) {
            if (d != g && (takers >> d & 1) == 1) {
                Check.due("list", x.deliver(d, w), 3);
                calls++;
            }
        }
        for (int d = 0; d < 6; d++) {
            if ((posters >> d & 1) == 1) {
                w += Integer.bitCount(mask);
                Check.due("post", x.post(d, g), w);
                calls++;
            }
        }
        return calls;
    }
}
