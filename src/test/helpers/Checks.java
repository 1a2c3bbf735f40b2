import java.util.NoSuchElementException;

/** What the tests have in common: they say what is due, and everything that is not so is printed. */
abstract class Checks {
    static final Class<NoSuchElementException> NO_PIECE = NoSuchElementException.class;
    static final Class<IllegalArgumentException> RANGE = IllegalArgumentException.class;
    static final Class<IllegalStateException> STATE = IllegalStateException.class;
    static final Class<UnsupportedOperationException> NO_ROOM = UnsupportedOperationException.class;
    static final Class<ArithmeticException> AREA = ArithmeticException.class;
    static final Class<ArrayIndexOutOfBoundsException> NO_CELL = ArrayIndexOutOfBoundsException.class;
    static final int MIN = Integer.MIN_VALUE;
    static final int MAX = Integer.MAX_VALUE;
    private static int wrong = 0;
    private static int held = 0;
    private static String sentence = "";

    interface Call {
        long answer();
    }

    interface Question {
        boolean answer();
    }

    interface Order {
        void carryOut();
    }

    /** The words of the document that the checks behind it hold. */
    static void sentence(String words) {
        sentence = words;
    }

    static void due(String what, long want, Call call) {
        String got;
        try {
            got = Long.toString(call.answer());
        } catch (RuntimeException e) {
            got = e.getClass().getName();
        }
        same(what, Long.toString(want), got);
    }

    static void yes(String what, Question question) {
        due(what, 1, () -> question.answer() ? 1 : 0);
    }

    static void no(String what, Question question) {
        due(what, 0, () -> question.answer() ? 1 : 0);
    }

    /** The class itself is due: one below it would reach a caller who asks for its name. */
    static void refused(String what, Class<? extends RuntimeException> want, Order order) {
        String got = "nothing thrown";
        try {
            order.carryOut();
        } catch (RuntimeException e) {
            got = e.getClass().getName();
        }
        same(what, want.getName(), got);
    }

    static void same(String what, String want, String got) {
        held++;
        if (!want.equals(got)) {
            wrong++;
            System.out.println(sentence + ": " + what + " answered " + got + ", due is " + want);
        }
    }

    static void end() {
        System.out.println(wrong == 0 ? "all " + held + " answers are as due" : wrong + " answers are not as due");
        if (wrong != 0 || held == 0) {
            System.exit(1);
        }
    }

    /** A box with pieces, each told as its width, depth, height and weight. */
    static PackingSearch packing(int width, int depth, int height, int[]... pieces) {
        PackingSearch x = new PackingSearch(width, depth, height);
        for (int[] p : pieces) {
            x.piece(p[0], p[1], p[2], p[3]);
        }
        return x;
    }

    static int[] p(int width, int depth, int height, int weight) {
        return new int[] {width, depth, height, weight};
    }

    static void placeIs(String what, PackingSearch x, int piece, int... want) {
        for (int i = 0; i < want.length; i++) {
            int asked = i;
            due(what + ": at(" + piece + ", " + i + ")", want[i], () -> x.at(piece, asked));
        }
    }
}
