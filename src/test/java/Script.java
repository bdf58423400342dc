/** Runs lines of calls, one behind the other, on one object. */
final class Script {
    private final Due due;
    private final String title;
    private final LateClaims x = new LateClaims();

    private Script(Due due, String title) {
        this.due = due;
        this.title = title;
    }

    /** A new object, on which the lines are run. */
    static Script of(Due due, String title, String lines) {
        return new Script(due, title).on(lines);
    }

    Script on(String lines) {
        for (Line line : Line.of(lines)) due.is(title + ": " + line.call, line.call.on(x), line.due);
        return this;
    }

    /** The same line so many times, with the number of the time, from 0 on, for each '@'. */
    Script times(int many, String line) {
        for (int i = 0; i < many; i++) on(line.replace("@", Integer.toString(i)));
        return this;
    }
}
