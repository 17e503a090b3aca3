/** What the project's tests share: counting answers that are not as due, and towns made by a text. */
final class Dues {
    static final int BYTES = 0, SHORTS = 1, INTS = 2;

    private int asked;
    private int wrong;
    private String part = "";

    void part(String name) {
        part = name;
    }

    void due(String call, long got, long want) {
        asked++;
        if (got != want) {
            wrong++;
            System.out.println(part + ": " + call + " answered " + got + ", due is " + want);
        }
    }

    void holds(String what, boolean so) {
        asked++;
        if (!so) {
            wrong++;
            System.out.println(part + ": not so: " + what);
        }
    }

    void end() {
        System.out.println(asked + " answers, " + wrong + " not as due");
        if (wrong != 0 || asked == 0) {
            System.exit(1);
        }
    }

    static int[] codes(String text) {
        int[] codes = new int[text.length()];
        for (int i = 0; i < codes.length; i++) {
            codes[i] = text.charAt(i);
        }
        return codes;
    }

    static void write(TownLisp x, int sheet, int lane, int... values) {
        x.sheet(sheet, lane, values.length);
        for (int i = 0; i < values.length; i++) {
            x.put(sheet, i, values[i]);
        }
    }

    /** By sheet 3, which has nothing then, so that a test's own sheets are as new. */
    static int read(TownLisp x, String text) {
        write(x, 3, BYTES, codes(text));
        int answer = x.town(3, BYTES, 0, text.length());
        x.lose(3);
        return answer;
    }

    static TownLisp townOf(String text) {
        TownLisp x = new TownLisp();
        int people = read(x, text);
        if (people < 2) {
            throw new IllegalStateException("the test's own town is not taken: " + text + " " + people);
        }
        return x;
    }

    /** All that can be seen of an object, fault() too; looking changes fault() alone. */
    static String seen(TownLisp x) {
        StringBuilder all = new StringBuilder();
        all.append("fault ").append(x.fault());
        return all.append(seenButFault(x)).toString();
    }

    static String seenButFault(TownLisp x) {
        StringBuilder all = new StringBuilder();
        all.append(" trace ").append(x.trace());
        for (int what = 0; what < 5; what++) {
            all.append(" many ").append(x.many(what));
        }
        for (int p = 0; p < 6; p++) {
            for (int what = 0; what < 5; what++) {
                all.append(' ').append(x.ofPerson(p, what));
            }
            all.append(" ears ").append(x.ears(p)).append(" kinds ").append(x.kinds(p));
        }
        for (int k = 0; k < 4; k++) {
            for (int lane = 0; lane < 3; lane++) {
                for (int i = 0; i < 60; i++) {
                    all.append(' ').append(x.cell(k, i, lane));
                }
                // An empty row's lane is seen by the fault alone.
                all.append(" fault ").append(x.fault());
            }
        }
        return all.toString();
    }
}
