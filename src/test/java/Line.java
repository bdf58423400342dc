import java.util.ArrayList;
import java.util.List;

/** A call and the answer that is due, told as "leg 0 1 0 0 100 200 = 0"; behind '#' stands a word on why. */
final class Line {
    final Call call;
    final int due;

    private Line(Call call, int due) {
        this.call = call;
        this.due = due;
    }

    static List<Line> of(String text) {
        List<Line> lines = new ArrayList<>();
        for (String row : text.split("\n")) {
            String line = row.split("#", 2)[0].trim();
            if (line.isEmpty()) continue;
            String[] sides = line.split("=");
            if (sides.length != 2) throw new IllegalArgumentException(line);
            lines.add(new Line(Call.of(sides[0]), Integer.parseInt(sides[1].trim())));
        }
        return lines;
    }

    /** The number of the refusal that is due; 0 if it is none. */
    int refusal() {
        if (due > 1000000000) return 1000000000 - due;
        return due < 0 && due >= -6 ? due : 0;
    }
}
