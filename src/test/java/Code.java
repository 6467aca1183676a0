/** Puts functions into a language from a short text: "v 0 5; l 0; j 0 1", with 0 for what is left out. */
final class Code {
    private Code() {
    }

    static int function(EventloopRow row, String text) {
        int function = row.addFunction();
        fill(row, function, text);
        return function;
    }

    static void fill(EventloopRow row, int function, String text) {
        for (String line : text.split(";")) {
            String[] words = line.trim().split(" +");
            if (words[0].isEmpty()) {
                continue;
            }
            int[] numbers = new int[3];
            for (int i = 1; i < words.length; i++) {
                numbers[i - 1] = Integer.parseInt(words[i]);
            }
            row.add(function, words[0].charAt(0), numbers[0], numbers[1], numbers[2]);
        }
    }

    /** The begin of a function, seven instructions, by which r0 becomes 2^exponent; r1 becomes 0, and r2 1. */
    static String twoTo(int exponent) {
        return "v 0 8192; v 1 " + (13 - exponent) + "; v 2 1; z 1 7; + 0 0; + 1 2; j 0 3;";
    }

    /** A language with these functions. */
    static EventloopRow language(String... texts) {
        EventloopRow row = new EventloopRow();
        for (int i = 0; i < texts.length; i++) {
            row.addFunction();
        }
        for (int i = 0; i < texts.length; i++) {
            fill(row, i, texts[i]);
        }
        return row;
    }

    /** A language with these functions; the function 0 is posted and one turn is done. */
    static EventloopRow turned(String... texts) {
        EventloopRow row = language(texts);
        row.post(0);
        row.turn(1);
        return row;
    }

    /** Checks all that was traced. */
    static void traces(String what, EventloopRow row, int... due) {
        Check.same(what + ": traced", row.traced(), due.length);
        for (int i = 0; i < due.length && i < row.traced(); i++) {
            Check.same(what + ": traceAt(" + i + ")", row.traceAt(i), due[i]);
        }
        Check.yes(what + ": isSound", row.isSound());
    }
}
