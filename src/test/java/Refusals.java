import java.util.ArrayList;
import java.util.List;
import java.util.function.Function;

/**
 * Calls that an object in one state must refuse: each must throw what is due, and everything that can
 * be asked of the object afterwards must be answered as if the call had not been made. As an object is
 * promised for 512 calls alone, the calls that lead to the state are made again on a new object for
 * every few questions.
 */
final class Refusals {
    private static final int QUESTIONS_OF_ONE_OBJECT = 200;

    private final Due.Calls before;
    private final List<String> untouchedState;

    /** The calls before are at most some 300. */
    Refusals(Due.Calls before) {
        this.before = before;
        untouchedState = stateAfter(before);
    }

    void refused(String what, Class<? extends RuntimeException> due, Due.Calls call) {
        Due.fails(what, due, Due.after(before), call);
        List<String> state = stateAfter(x -> {
            before.on(x);
            makeQuietly(x, call);
        });
        if (!state.equals(untouchedState)) {
            Due.tell(what + " was refused and changed something: " + firstDifference(state));
        }
    }

    private static void makeQuietly(PairFinder x, Due.Calls call) {
        try {
            call.on(x);
        } catch (RuntimeException thrown) {
            return;
        }
    }

    private String firstDifference(List<String> state) {
        for (int k = 0; k < state.size() && k < untouchedState.size(); k++) {
            if (!state.get(k).equals(untouchedState.get(k))) {
                return state.get(k) + ", before it " + untouchedState.get(k);
            }
        }
        return state.size() + " answers, before it " + untouchedState.size();
    }

    /** Every answer to every question of the face, then what the pad is, then what the next calls would do. */
    static List<String> stateAfter(Due.Calls calls) {
        List<String> answers = new ArrayList<>();
        List<Question> questions = questionsAfter(calls);
        PairFinder x = null;
        for (int k = 0; k < questions.size(); k++) {
            if (k % QUESTIONS_OF_ONE_OBJECT == 0) {
                x = Due.after(calls);
            }
            answers.add(questions.get(k).answerOf(x));
        }
        addPad(answers, calls);
        addNextUpdate(answers, Due.after(calls));
        return answers;
    }

    private static final class Question {
        private final String call;
        private final Function<PairFinder, Object> ask;

        Question(String call, Function<PairFinder, Object> ask) {
            this.call = call;
            this.ask = ask;
        }

        String answerOf(PairFinder x) {
            try {
                return call + " -> " + ask.apply(x);
            } catch (RuntimeException thrown) {
                return call + " -> throws." + thrown.getClass().getSimpleName();
            }
        }
    }

    private static List<Question> questionsAfter(Due.Calls calls) {
        PairFinder x = Due.after(calls);
        List<Question> questions = new ArrayList<>();
        for (int what = 0; what <= 6; what++) {
            int asked = what;
            questions.add(new Question("count(" + what + ")", y -> y.count(asked)));
        }
        for (int which = 0; which <= 2; which++) {
            addPairQuestions(questions, which, x.count(which + 1));
        }
        int found = x.count(6);
        for (int k = 0; k <= found; k++) {
            int asked = k;
            questions.add(new Question("found(" + k + ")", y -> y.found(asked)));
            questions.add(new Question("where(" + k + ")", y -> y.where(asked)));
        }
        questions.add(new Question("nearest()", PairFinder::nearest));
        boolean[] there = bodiesThereAfter(calls);
        for (int body = 0; body < there.length; body++) {
            addBodyQuestions(questions, body, there[body]);
        }
        return questions;
    }

    private static boolean[] bodiesThereAfter(Due.Calls calls) {
        boolean[] there = new boolean[512];
        PairFinder x = null;
        for (int body = 0; body < there.length; body++) {
            if (body % QUESTIONS_OF_ONE_OBJECT == 0) {
                x = Due.after(calls);
            }
            there[body] = isThere(x, body);
        }
        return there;
    }

    private static boolean isThere(PairFinder x, int body) {
        try {
            x.about(body, 0);
            return true;
        } catch (IndexOutOfBoundsException thrown) {
            return false;
        }
    }

    private static void addPairQuestions(List<Question> questions, int which, int size) {
        for (int k = 0; k <= size; k++) {
            int asked = k;
            questions.add(new Question("pair(" + which + ", " + k + ")", y -> y.pair(which, asked)));
        }
    }

    /** A body that is not there is asked once, so that it is seen if it is there all at once. */
    private static void addBodyQuestions(List<Question> questions, int body, boolean there) {
        for (int what = 0; what < (there ? 4 : 1); what++) {
            int asked = what;
            questions.add(new Question("about(" + body + ", " + what + ")", y -> y.about(body, asked)));
        }
        for (int what = 0; what < (there ? 12 : 0); what++) {
            int asked = what;
            questions.add(new Question("corner(" + body + ", " + what + ")", y -> y.corner(body, asked)));
        }
    }

    /** The pad can be told by a body that takes it alone; where it is no box, by one corner with a far other one. */
    private static void addPad(List<String> answers, Due.Calls calls) {
        PairFinder low = Due.after(calls);
        low.high(Due.FARTHEST, Due.FARTHEST, Due.FARTHEST);
        PairFinder high = Due.after(calls);
        high.low(-Due.FARTHEST, -Due.FARTHEST, -Due.FARTHEST);
        int lowBody = bodyAtThePad(low);
        int highBody = bodyAtThePad(high);
        for (int axis = 0; axis < 3; axis++) {
            answers.add("the pad's low " + axis + " -> " + low.corner(lowBody, 6 + axis));
            answers.add("the pad's high " + axis + " -> " + high.corner(highBody, 9 + axis));
        }
    }

    private static int bodyAtThePad(PairFinder x) {
        if (x.count(0) == 512) {
            x.move(0, 0, 0, 0);
            return 0;
        }
        return x.add(0, 0);
    }

    private static void addNextUpdate(List<String> answers, PairFinder x) {
        answers.add(new Question("update()", PairFinder::update).answerOf(x));
        for (int what = 0; what <= 6; what++) {
            answers.add("count(" + what + ") after it -> " + x.count(what));
        }
        for (int which = 0; which <= 2; which++) {
            for (int k = 0; k <= 8; k++) {
                int asked = k;
                int kind = which;
                answers.add(new Question("pair(" + which + ", " + k + ") after it", y -> y.pair(kind, asked)).answerOf(x));
            }
        }
    }
}
