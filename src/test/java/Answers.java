import java.util.Map;
import java.util.TreeSet;

/** Compares answers with those that are due, and prints those that differ. */
final class Answers {
    private int asked = 0;
    private int wrong = 0;
    private String topic = "";

    void topic(String name) {
        topic = name;
    }

    /** Makes a sentence of the document the topic. */
    void sentence(String words) {
        topic = "\"" + words + "\"";
        holds("the document does not say so", Document.says(words));
    }

    void due(String call, long want, long got) {
        asked++;
        if (got != want) {
            wrong++;
            System.out.println(topic + ": " + call + " answered " + got + ", due is " + want);
        }
    }

    void same(String when, Map<String, Integer> want, Map<String, Integer> got) {
        TreeSet<String> calls = new TreeSet<>(want.keySet());
        calls.addAll(got.keySet());
        for (String call : calls) {
            asked++;
            Integer due = want.get(call);
            Integer answer = got.get(call);
            if (due == null || !due.equals(answer)) {
                wrong++;
                System.out.println(topic + ": " + when + ": " + call + " answered " + answer + ", due is " + due);
            }
        }
    }

    void holds(String what, boolean isSo) {
        asked++;
        if (!isSo) {
            wrong++;
            System.out.println(topic + ": " + what);
        }
    }

    int asked() {
        return asked;
    }

    int wrong() {
        return wrong;
    }

    void end() {
        System.out.println(asked + " answers, " + wrong + " not as due");
        if (wrong != 0) {
            System.exit(1);
        }
    }
}
