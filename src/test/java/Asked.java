import java.util.LinkedHashMap;
import java.util.List;
import java.util.Map;

/** All that can be asked of an object, so that two of them can be compared: asking changes neither. */
final class Asked {
    private Asked() { }

    /** Every question with numbers that are told, and its answer; for nets of some seven LINKS these are under 300 calls. */
    static Map<String, Integer> all(LoadWeights x) {
        Map<String, Integer> answers = new LinkedHashMap<>();
        for (int what = 0; what <= 10; what++) {
            answers.put("count(" + what + ")", x.count(what));
        }
        answers.put("cost()", x.cost());
        answers.put("fault()", x.fault());
        int nodes = x.count(0);
        int links = x.count(1);
        int demands = x.count(2);
        for (int a = 0; a < nodes; a++) {
            for (int b = 0; b < nodes; b++) {
                answers.put("far(" + a + ", " + b + ")", x.far(a, b));
            }
        }
        for (int l = 0; l < links; l++) {
            ofLink(x, l, demands, answers);
        }
        for (int what = 0; what <= 2; what++) {
            answers.put("best(" + what + ")", x.best(what));
        }
        for (int what = 0; what <= 1; what++) {
            answers.put("worst(" + what + ")", x.worst(what));
        }
        return answers;
    }

    private static void ofLink(LoadWeights x, int l, int demands, Map<String, Integer> answers) {
        for (int what = 0; what <= 7; what++) {
            answers.put("link(" + l + ", " + what + ")", x.link(l, what));
        }
        for (int d = 0; d < demands; d++) {
            answers.put("share(" + d + ", " + l + ")", x.share(d, l));
        }
        for (int w = 1; w <= 20; w++) {
            answers.put("tabu(" + l + ", " + w + ")", x.tabu(l, w));
        }
        for (int what = 0; what <= 2; what++) {
            answers.put("rescue(" + l + ", " + what + ")", x.rescue(l, what));
        }
    }

    /** But for the calls that are named, both answer the same. */
    static void same(Due due, String why, LoadWeights want, LoadWeights got, String... but) {
        Map<String, Integer> wanted = all(want);
        Map<String, Integer> answers = all(got);
        due.is(why + ": as many answers", wanted.size(), answers.size());
        wanted.keySet().removeAll(List.of(but));
        for (String call : wanted.keySet()) {
            due.is(why + ": " + call, wanted.get(call), answers.getOrDefault(call, Integer.MIN_VALUE));
        }
    }
}
