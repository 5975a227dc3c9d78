import java.io.IOException;

/** Tests by sentences: each goes by its promise's number and the document's own words. */
final class Edges {
    private final Document document = new Document();
    private final Due due = new Due();
    private String sentence = "";
    private int sentences;
    private int answersOfSentence = 1;
    private int wrong;

    Edges() throws IOException { }

    /** What follows tests these words of a promise (0: ahead of the promises). */
    void of(int promise, String words) {
        endSentence();
        sentence = "promise " + promise + ", \"" + words + "\": ";
        sentences++;
        if (!document.quote(promise, words)) {
            wrong("is not in the document");
        }
    }

    void is(String call, long got, long want) {
        answersOfSentence++;
        due.is(sentence + call, got, want);
    }

    void same(String call, String got, String want) {
        answersOfSentence++;
        if (!got.equals(want)) {
            wrong(call + " is\n    " + got + "\n  due is\n    " + want);
        }
    }

    private void wrong(String what) {
        wrong++;
        System.out.println(sentence + what);
    }

    private void endSentence() {
        if (answersOfSentence == 0) {
            wrong("no answer was looked at");
        }
        answersOfSentence = 0;
    }

    void close(String name) {
        endSentence();
        for (String words : document.unquoted()) {
            wrong++;
            System.out.println("no test quotes " + words);
        }
        System.out.println(name + ": " + sentences + " sentences");
        if (wrong != 0) {
            System.out.println(wrong + " of them are wrong");
            System.exit(1);
        }
        due.close(name);
    }
}
