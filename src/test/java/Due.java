/** Compares answers with the ones that are due, and ends a test. */
final class Due {
    private static int compared = 0;
    private static int wrong = 0;

    private Due() {
    }

    static void due(String call, long got, long want) {
        compared++;
        if (got != want) {
            wrong++;
            System.out.println(call + " answered " + got + ", due is " + want);
        }
    }

    /** The text as numbers for put(), eight characters or fewer at once; all but the last have to fit. */
    static int write(MeshTurns x, String text) {
        int answer = 0;
        for (int start = 0; start < text.length(); start += 8) {
            answer = x.put(packed(text.substring(start, Math.min(text.length(), start + 8))));
        }
        return answer;
    }

    static long packed(String text) {
        long characters = 0;
        for (int i = 0; i < text.length(); i++) {
            characters = characters << 8 | text.charAt(i);
        }
        return characters;
    }

    static void finish() {
        System.out.println(compared + " answers compared, " + wrong + " are not as due");
        if (wrong > 0 || compared == 0) {
            System.exit(1);
        }
    }
}
