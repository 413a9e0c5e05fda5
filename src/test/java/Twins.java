import java.util.ArrayList;
import java.util.List;
import java.util.function.Supplier;
import java.util.function.ToIntFunction;

/**
 * Whether a call changes nothing, or nothing but the counter of its error: an object on which the call
 * is made has to answer ever after as its twin does, which was made in the same way and spared the call.
 */
final class Twins {
    private static final int OUT = ProgressTracker.OUT_OF_RANGE;

    private Twins() { }

    /** The call answers this error code, and changes nothing but the counter of that code. */
    static void refused(Due due, String what, int code, Supplier<ProgressTracker> made,
            ToIntFunction<ProgressTracker> call) {
        ProgressTracker object = made.get();
        ProgressTracker twin = made.get();
        long before = object.digest();
        due.same(what, call.applyAsInt(object), code);
        for (int other = -5; other <= -2; other++) {
            due.same(what + ", then errorCount(" + other + ")", object.errorCount(other),
                    twin.errorCount(other) + (other == code ? 1 : 0));
        }
        due.holds(what + " changes more of the digest than the counter of its code",
                weighed(object.digest() - before, code) == weightOfOutOfRange(object));
        sameAfter(due, what, made, call);
    }

    /** The call gives this answer, and changes nothing at all. */
    static void asked(Due due, String what, int answer, Supplier<ProgressTracker> made,
            ToIntFunction<ProgressTracker> call) {
        ProgressTracker object = made.get();
        long before = object.digest();
        due.same(what, call.applyAsInt(object), answer);
        due.same(what + ", then digest()", object.digest(), before);
        sameAfter(due, what, made, call);
    }

    // In the digest the counter of -3 weighs 31 times less than that of -2, and so on.
    private static long weighed(long difference, int code) {
        long weighed = difference;
        for (int i = code; i < OUT; i++) {
            weighed *= 31;
        }
        return weighed;
    }

    private static long weightOfOutOfRange(ProgressTracker x) {
        long before = x.digest();
        x.errorCount(0);
        return x.digest() - before;
    }

    private static void sameAfter(Due due, String what, Supplier<ProgressTracker> made,
            ToIntFunction<ProgressTracker> call) {
        ProgressTracker object = made.get();
        call.applyAsInt(object);
        due.holds(what + " changes what is received later", received(object).equals(received(made.get())));
        ProgressTracker another = made.get();
        call.applyAsInt(another);
        due.holds(what + " changes what is restored later", restored(another).equals(restored(made.get())));
    }

    private static List<Integer> received(ProgressTracker x) {
        List<Integer> answers = new ArrayList<>();
        look(x, answers);
        for (int worker = 0; worker < 2; worker++) {
            answers.add(x.receive(worker, 2));
            for (int location = 0; location < 16; location++) {
                answers.add(x.count(worker, location, 0));
            }
            answers.add(x.receive(worker, 99));
        }
        look(x, answers);
        answers.add(x.addNode(0, 0));
        return answers;
    }

    private static List<Integer> restored(ProgressTracker x) {
        List<Integer> answers = new ArrayList<>();
        for (int i = 0; i < 3; i++) {
            answers.add(x.undo());
            look(x, answers);
        }
        answers.add(x.undo());
        answers.add(x.addNode(0, 0));
        return answers;
    }

    // Some 90 calls: the two lists above stay far below the 512 calls that an object is good for.
    private static void look(ProgressTracker x, List<Integer> answers) {
        for (int worker = 0; worker < 2; worker++) {
            answers.addAll(List.of(x.pending(worker), x.active(worker)));
            for (int index = -1; index < 3; index++) {
                answers.add(x.frontier(worker, index));
            }
            for (int edge = 0; edge < 10; edge++) {
                answers.addAll(List.of(x.messages(worker, edge), x.messageTime(worker, edge, 0)));
            }
            for (int node = 0; node < 6; node++) {
                answers.addAll(List.of(x.requests(worker, node), x.deliverable(worker, node)));
            }
        }
        for (int edge = 0; edge < 10; edge++) {
            answers.add(x.kind(edge));
        }
        answers.addAll(List.of(x.delivered(), x.violations()));
    }
}
