import java.util.ArrayList;
import java.util.Arrays;
import java.util.List;

/**
 * What a run of calls leads to. Each question is put to a new object on which the run is made again, so that no
 * question leans on another, and what a refused call leaves behind can be held against what was there without it.
 */
final class Scene {
    private static final int MOST_CALLS = 512;
    private static final int KINDS = 6;

    private final Due due;
    private final String title;
    private final List<Line> run;
    private final int[] refusals;
    private List<List<Call>> rows;
    private final List<int[]> untouched = new ArrayList<>();

    private Scene(Due due, String title, List<Line> run) {
        this.due = due;
        this.title = title;
        this.run = run;
        LateClaims x = new LateClaims();
        for (Line line : run) due.is(title + ": " + line.call, line.call.on(x), line.due);
        refusals = refusalsOf(x);
    }

    static Scene of(Due due, String title, String lines) {
        return new Scene(due, title, Line.of(lines));
    }

    Scene with(String more, String lines) {
        List<Line> longer = new ArrayList<>(run);
        longer.addAll(Line.of(lines));
        return new Scene(due, title + ", " + more, longer);
    }

    /** The lines, one behind the other on one object: none is refused. */
    Scene takes(String lines) {
        LateClaims x = again();
        for (Line line : Line.of(lines)) due.is(title + ": " + line.call, line.call.on(x), line.due);
        due.holds(title + ": no REFUSAL among " + lines, Arrays.equals(refusals, refusalsOf(x)));
        return this;
    }

    /** Each line by itself: it is refused, count tells of that one more, and nothing else has changed. */
    Scene refuses(String lines) {
        for (Line line : Line.of(lines)) {
            if (line.refusal() == 0) throw new IllegalArgumentException(line.call + " is to be refused");
            refuses(line);
        }
        return this;
    }

    /** Each line by itself: it is no REFUSAL, and nothing has changed but what one call asks for ("" for none). */
    Scene leavesAllBut(String asked, String lines) {
        for (Line line : Line.of(lines)) {
            counts(line, refusals);
            leavesAllBut(asked, line);
        }
        return this;
    }

    private void refuses(Line line) {
        int[] counted = refusals.clone();
        counted[-line.refusal() - 1]++;
        counts(line, counted);
        leavesAllBut("", line);
    }

    private void counts(Line line, int[] counted) {
        LateClaims x = again();
        due.is(title + ": " + line.call, line.call.on(x), line.due);
        int[] counts = refusalsOf(x);
        for (int i = 0; i < KINDS; i++) due.is(title + ": " + line.call + ", then count " + (11 + i), counts[i], counted[i]);
    }

    private void leavesAllBut(String asked, Line line) {
        lookAtAll();
        for (int row = 0; row < rows.size(); row++) {
            LateClaims x = again();
            line.call.on(x);
            int[] now = answers(x, rows.get(row));
            for (int i = 0; i < now.length; i++) {
                Call call = rows.get(row).get(i);
                if (now[i] == untouched.get(row)[i] || call.toString().equals(asked)) continue;
                due.is(title + ": " + line.call + ", then " + call, now[i], untouched.get(row)[i]);
            }
        }
    }

    private void lookAtAll() {
        if (rows != null) return;
        rows = new Everything(again()).inRowsOf(MOST_CALLS - run.size() - 1);
        for (List<Call> row : rows) untouched.add(answers(again(), row));
    }

    private LateClaims again() {
        LateClaims x = new LateClaims();
        for (Line line : run) line.call.on(x);
        return x;
    }

    private static int[] answers(LateClaims x, List<Call> calls) {
        int[] answers = new int[calls.size()];
        for (int i = 0; i < answers.length; i++) answers[i] = calls.get(i).on(x);
        return answers;
    }

    private static int[] refusalsOf(LateClaims x) {
        int[] counts = new int[KINDS];
        for (int i = 0; i < KINDS; i++) counts[i] = x.count(11 + i);
        return counts;
    }
}
