import java.util.NoSuchElementException;

/** The edges of what a call takes: the last number that it does, and the first that it refuses. */
final class Edge {
    /** The answer of a call that throws NoSuchElementException. */
    static final long THREW = Long.MIN_VALUE;
    static final long NONE = -1;
    static final long FALSE = 0;

    interface Call {
        long answer(int n);
    }

    private Edge() {
    }

    /** A call, told by its sentence, that takes the numbers from least to most and no other. */
    static void range(String sentence, long refusal, int least, int most, Call call) {
        for (int n : new int[] {least, most}) {
            Check.due(sentence + ": is " + n + " refused", answer(call, n) == refusal, false);
        }
        for (int n : new int[] {least - 1, most + 1, Integer.MIN_VALUE, Integer.MAX_VALUE}) {
            Check.due(sentence + ": " + n, answer(call, n), refusal);
        }
    }

    static long answer(Call call, int n) {
        try {
            return call.answer(n);
        } catch (NoSuchElementException e) {
            return THREW;
        }
    }

    static long number(boolean answer) {
        return answer ? 1 : 0;
    }
}
