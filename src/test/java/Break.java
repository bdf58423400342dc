/** One place of the program, from a sign to a sign, with other words for it. */
record Break(String method, long line, int from, int to, String words) {
    String in(String program) {
        return program.substring(0, from) + words + program.substring(to);
    }

    String told(String program) {
        return method + ", line " + line + ": " + program.substring(from, to).replaceAll("\\s+", " ") + " -> " + words;
    }
}
