/** What the tests share: answers that are due, and texts fed to an object. */
final class Due {
    private static int asked = 0;
    private static int wrong = 0;

    private Due() {
    }

    static void is(String call, long got, long want) {
        asked++;
        if (got != want) {
            wrong++;
            System.out.println(call + " answered " + got + ", due is " + want);
        }
    }

    static void is(String call, boolean got, boolean want) {
        is(call, got ? 1L : 0L, want ? 1L : 0L);
    }

    static int wrongOnes() {
        return wrong;
    }

    /** Feeds a text (characters 0 to 255), with z behind it up to twenty bytes each; answers its length. */
    static int text(WordWar war, String text) {
        for (int i = 0; i < text.length(); i += 20) {
            war.feed(fourBytes(text, i), fourBytes(text, i + 4), fourBytes(text, i + 8),
                    fourBytes(text, i + 12), fourBytes(text, i + 16));
        }
        return text.length();
    }

    static int fourBytes(String text, int from) {
        int number = 0;
        for (int i = from; i < from + 4; i++) {
            number = number << 8 | (i < text.length() ? text.charAt(i) & 255 : 'z');
        }
        return number;
    }

    static int lexicon(WordWar war, int side, String text) {
        return war.lexicon(side, text(war, text));
    }

    static int law(WordWar war, String text) {
        return war.law(text(war, text));
    }

    static int orders(WordWar war, int side, String text) {
        return war.orders(side, text(war, text));
    }

    static int judged(WordWar war, int side, String text) {
        return war.judged(side, text(war, text));
    }

    static int fight(WordWar war, String text) {
        return war.fight(text(war, text));
    }

    /** The order is told by letters here. */
    static boolean order(WordWar war, int side, String letters) {
        StringBuilder bytes = new StringBuilder();
        for (int i = 0; i < letters.length(); i++) {
            bytes.append((char) (letters.charAt(i) - 'a'));
        }
        text(war, bytes.toString());
        return war.order(side);
    }

    /** So many of each letter of a text come into a reserve, none of the others. */
    static void reserve(WordWar war, int side, String letters) {
        int[] n = new int[12];
        for (int i = 0; i < letters.length(); i++) {
            n[letters.charAt(i) - 'a']++;
        }
        for (int letter = 0; letter < 12; letter++) {
            war.reserve(side, letter, n[letter]);
        }
    }

    static void end() {
        System.out.println(wrong == 0 ? asked + " answers are as due" : wrong + " of " + asked + " answers are not as due");
        if (wrong != 0 || asked == 0) {
            System.exit(1);
        }
    }
}
