/** Texts of crossings, put together from their statements. */
final class Texts {
    static final String[] OWN_WORDS = ("cycle green rule least kind calm pace trusts comes is at car red learns away"
        + " second day phase waited gap reds number went harm or and not all min max").split(" ");
    static final String PLAIN = first(20, 6, 0, 5);

    private Texts() {
    }

    static String first(int cycle, int green, int rule, int least) {
        return "cycle " + cycle + " green " + green + " rule " + rule + " least " + least + ";";
    }

    static String kind(String name, int calm, int pace, int trusts) {
        return "kind " + name + " calm " + calm + " pace " + pace + " trusts " + trusts + ";";
    }

    /** Walkers wa, wb, .. of a KIND, each with his SECOND. */
    static String come(String kind, int... seconds) {
        StringBuilder text = new StringBuilder();
        for (int k = 0; k < seconds.length; k++) {
            text.append("comes w").append((char) ('a' + k)).append(" is ").append(kind).append(" at ")
                .append(seconds[k]).append(";");
        }
        return text.toString();
    }

    /** All twelve walkers, wa to wl, of one KIND, each at the same SECOND. */
    static String twelve(String kind, int second) {
        int[] seconds = new int[12];
        java.util.Arrays.fill(seconds, second);
        return come(kind, seconds);
    }

    /** KINDS ka, kb, ..: calm and pace as told. */
    static String kinds(int count, int calm, int pace, int trusts) {
        StringBuilder text = new StringBuilder();
        for (int k = 0; k < count; k++) {
            text.append(kind("k" + (char) ('a' + k), calm, pace, trusts));
        }
        return text.toString();
    }

    static String times(int count, String piece) {
        return new String(new char[count]).replace("\0", piece);
    }
}
