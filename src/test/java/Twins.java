import java.util.List;
import java.util.function.Consumer;
import java.util.function.ToIntFunction;

/**
 * Two objects with the same past. Calls go to both and are answered alike; a call that is refused
 * goes to the first one alone, and from then on nothing may tell the two apart.
 */
final class Twins {
    /** The register that is used to look through the DIRECTORY. */
    static final int SCRATCH = 13;

    private final SealedHouse one = new SealedHouse();
    private final SealedHouse other = new SealedHouse();

    static Twins published(int devices) {
        Twins twins = new Twins();
        for (int d = 0; d < devices; d++) {
            int who = d;
            twins.due("publish", x -> x.publish(who), 1);
        }
        return twins;
    }

    /** What has to be done on the way to an edge. */
    void run(Consumer<SealedHouse> steps) {
        steps.accept(one);
        steps.accept(other);
    }

    void due(String what, ToIntFunction<SealedHouse> call, int want) {
        Check.due(what, call.applyAsInt(one), want);
        Check.due(what + ", of the twin", call.applyAsInt(other), want);
    }

    void refused(String what, ToIntFunction<SealedHouse> call, int want) {
        Check.due(what, call.applyAsInt(one), want);
        alike(what + " (refused)");
    }

    private void alike(String what) {
        List<String> a = Ask.everything(one, SCRATCH);
        List<String> b = Ask.everything(other, SCRATCH);
        int differ = 0;
        for (int i = 0; i < Math.min(a.size(), b.size()) && differ == 0; i++) {
            if (!a.get(i).equals(b.get(i))) {
                System.out.println(what + " changed " + b.get(i) + " to " + a.get(i));
                differ = 1;
            }
        }
        Check.due(what + ": another number of answers", a.size() - b.size(), 0);
        Check.due(what + ": changes", differ, 0);
    }

    private int both(ToIntFunction<SealedHouse> call) {
        int got = call.applyAsInt(one);
        Check.due("afterwards, of the twin", call.applyAsInt(other), got);
        return got;
    }

    /** What a refused call changed out of sight comes to light when both go on. */
    void end() {
        alike("at the end");
        for (int d = 0; d < 6; d++) {
            int who = d;
            both(x -> x.up(who));
            both(x -> x.publish(who));
        }
        for (int w = 0; w < one.count(0); w++) {
            int wire = w;
            for (int d = 0; d < 6; d++) {
                int who = d;
                both(x -> x.deliver(who, wire));
            }
        }
        for (int d = 0; d < 6; d++) {
            int who = d;
            both(x -> x.send(who, (who + 1) % 6));
            both(x -> x.begin(who, (who + 5) % 6));
            both(x -> x.post(who, 0));
            both(x -> x.post(who, 1));
        }
        both(x -> x.list(0, 1));
        for (int d = 0; d < 6; d++) {
            lookInto(d);
        }
        alike("behind all");
    }

    private void lookInto(int d) {
        int terms = both(x -> x.look(d));
        for (int i = 0; i < terms; i++) {
            int at = i;
            both(x -> x.take(SCRATCH, 3, at));
            both(x -> x.about(SCRATCH, 0));
            both(x -> x.about(SCRATCH, 1));
        }
    }
}
