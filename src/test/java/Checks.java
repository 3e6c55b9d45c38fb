import java.util.ArrayList;
import java.util.List;

/** Compares answers with those that are due, and tells the wrong ones. */
final class Checks {
    private int checked;
    private int wrong;
    private String promise = "";
    private final List<String> promises = new ArrayList<>();

    void promise(String name) {
        promise = name;
        promises.add(name);
    }

    /** The test of a sentence, which is told in the document's own words. */
    void sentence(String words) {
        promise(words);
        due("the document says this", Document.says(words) ? 1 : 0, 1);
    }

    /** The test of what a promise says, in its own words. */
    void promise(int n, String words) {
        promise("promise " + n + ", " + words);
        due("the promise says this", Document.promises(n, words) ? 1 : 0, 1);
    }

    void due(String call, long got, long want) {
        checked++;
        if (got != want) {
            wrong++;
            System.out.println(promise + ": " + call + " answered " + got + ", due is " + want);
        }
    }

    void end() {
        System.out.println(checked + " answers of " + promises.size() + " parts, " + wrong + " not as due");
        if (wrong != 0) {
            System.exit(1);
        }
    }
}
