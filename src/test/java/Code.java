/** Puts functions into a language from a short text: "v 0 5; l 0; j 0 1", with 0 for what is left out. */
final class Code {
    private Code() {
    }

    static int function(EventloopRow row, String text) {
        int function = row.addFunction();
        fill(row, function, text);
        return function;
    }

    static void fill(EventloopRow row, int function, String text) {
        for (String line : text.split(";")) {
            String[] words = line.trim().split(" +");
            if (words[0].isEmpty()) {
                continue;
            }
            int[] numbers = new int[3];
            for (int i = 1; i < words.length; i++) {
                numbers[i - 1] = Integer.parseInt(words[i]);
            }
            row.add(function, words[0].charAt(0), numbers[0], numbers[1], numbers[2]);
        }
    }

    /** A language with these functions; the function 0 is posted and one turn is done. */
    static EventloopRow turned(String... texts) {
        EventloopRow row = new EventloopRow();
        for (int i = 0; i < texts.length; i++) {
            row.addFunction();
        }
        for (int i = 0; i < texts.length; i++) {
            fill(row, i, texts[i]);
        }
        row.post(0);
        row.turn(1);
        return row;
    }

    /** Checks all that was traced. */
    static void traces(String what, EventloopRow row, int... due) {
        Check.same(what + ": traced", row.traced(), due.length);
        for (int i = 0; i < due.length && i < row.traced(); i++) {
            Check.same(what + ": traceAt(" + i + ")", row.traceAt(i), due[i]);
        }
        Check.yes(what + ": isSound", row.isSound());
    }
}
