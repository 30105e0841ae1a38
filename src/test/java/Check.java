/** Counts and prints the answers of a test that are not the ones that are due, sentence by sentence of the document. */
final class Check {
    interface Call {
        Object answer(Splityard yard);
    }

    /** Makes the same object each time, so that one can be kept as it was. */
    interface Recipe {
        Splityard make();
    }

    private final String test;
    private String sentence = "";
    private int sentences;
    private int lookedBefore;
    private int looked;
    private int wrong;

    Check(String test) {
        this.test = test;
    }

    /** Names the sentence that the answers looked at next belong to. */
    void of(String nextSentence) {
        endSentence();
        sentence = nextSentence;
        sentences++;
    }

    void same(String call, Object due, Object got) {
        looked++;
        if (!due.equals(got)) {
            wrong++;
            System.out.println(test + ", " + sentence + ": " + call + " answered " + got + ", due is " + due);
        }
    }

    /** The very class is asked for, so that no exception of the machine's passes for the document's. */
    void refused(String call, Class<? extends RuntimeException> due, Recipe recipe, Call refused) {
        leaves(call, "throws " + due.getName(), recipe, refused);
    }

    /** For a call that changes nothing: all that the object answers behind it is as without it. */
    void leaves(String call, Object due, Recipe recipe, Call made) {
        Splityard yard = recipe.make();
        same(call, due, answer(yard, made));
        same("what the object answers behind " + call, Picture.of(recipe.make()), Picture.of(yard));
    }

    static Object answer(Splityard yard, Call call) {
        try {
            return call.answer(yard);
        } catch (RuntimeException thrown) {
            return "throws " + thrown.getClass().getName();
        }
    }

    void end() {
        endSentence();
        System.out.println(test + ": " + sentences + " sentences, " + looked + " answers looked at, " + wrong
                + " not as due");
        if (wrong != 0 || looked == 0) {
            System.exit(1);
        }
    }

    private void endSentence() {
        if (sentences > 0 && looked == lookedBefore) {
            wrong++;
            System.out.println(test + ", " + sentence + ": no answer was looked at");
        }
        lookedBefore = looked;
    }
}
