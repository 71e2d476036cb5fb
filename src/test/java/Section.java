/** A section of the document: its sentences, in its own words, each with a test of its own. */
final class Section {
    interface SentenceTest {
        void run(Check check);
    }

    private final String name;
    private int tested;
    private int broken;

    Section(String name) {
        this.name = name;
    }

    void sentence(String words, SentenceTest test) {
        Check check = new Check(name + ", \"" + words + "\"");
        try {
            test.run(check);
        } catch (RuntimeException e) {
            check.fault("the test broke off with " + e);
        }
        if (check.made() == 0) {
            check.fault("the test looked at nothing");
        }
        tested++;
        if (check.wrong() > 0) {
            broken++;
        }
    }

    void end() {
        System.out.println(name + ": " + tested + " sentences tested, " + broken + " broken");
        if (broken > 0) {
            System.exit(1);
        }
    }
}
