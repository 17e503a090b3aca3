import java.io.IOException;
import java.nio.file.Files;
import java.nio.file.Path;
import java.util.stream.Stream;

/** What the project's tests share: counting answers that are not as due, and towns made by a text. */
final class Dues {
    static final int BYTES = 0, SHORTS = 1, INTS = 2;

    private int asked;
    private int wrong;
    private String part = "";

    void part(String name) {
        part = name;
    }

    void due(String call, long got, long want) {
        asked++;
        if (got != want) {
            wrong++;
            System.out.println(part + ": " + call + " answered " + got + ", due is " + want);
        }
    }

    void holds(String what, boolean so) {
        asked++;
        if (!so) {
            wrong++;
            System.out.println(part + ": not so: " + what);
        }
    }

    void end() {
        System.out.println(asked + " answers, " + wrong + " not as due");
        if (wrong != 0 || asked == 0) {
            System.exit(1);
        }
    }

    static int[] codes(String text) {
        int[] codes = new int[text.length()];
        for (int i = 0; i < codes.length; i++) {
            codes[i] = text.charAt(i);
        }
        return codes;
    }

    static void write(TownLisp x, int sheet, int lane, int... values) {
        x.sheet(sheet, lane, values.length);
        for (int i = 0; i < values.length; i++) {
            x.put(sheet, i, values[i]);
        }
    }

    /** By sheet 3, which has nothing then, so that a test's own sheets are as new. */
    static int read(TownLisp x, String text) {
        write(x, 3, BYTES, codes(text));
        int answer = x.town(3, BYTES, 0, text.length());
        x.lose(3);
        return answer;
    }

    static TownLisp townOf(String text) {
        TownLisp x = new TownLisp();
        int people = read(x, text);
        if (people < 2) {
            throw new IllegalStateException("the test's own town is not taken: " + text + " " + people);
        }
        return x;
    }

    /** A folder of a test's own, with all that is in it: what lies deepest goes first. */
    static void delete(Path dir) throws IOException {
        try (Stream<Path> all = Files.walk(dir)) {
            for (Path file : all.sorted((a, b) -> b.compareTo(a)).toList()) {
                Files.delete(file);
            }
        }
    }

    /**
     * All that can be seen of an object, as the last that is done with it: looking takes its READINGS back.
     * Some 400 calls at most, as an object's calls are promised up to the 512th.
     */
    static String lastLook(TownLisp x) {
        StringBuilder all = new StringBuilder();
        all.append("fault ").append(x.fault()).append(" trace ").append(x.trace());
        for (int what = 0; what < 5; what++) {
            all.append(" many ").append(x.many(what));
        }
        int people = x.many(0);
        for (int p = 0; p < people; p++) {
            all.append(" person");
            for (int what = 0; what < 5; what++) {
                all.append(' ').append(x.ofPerson(p, what));
            }
        }
        for (int k = 0; k < 4; k++) {
            all.append(" sheet").append(cellsOf(x, k));
        }
        // The last READINGS hide what the first ones tell, so each step back is looked at.
        for (int left = x.many(4); left >= 0; left--) {
            for (int p = 0; p < people; p++) {
                all.append(" ears ").append(x.ears(p)).append(" kinds ").append(x.kinds(p));
            }
            all.append(" left ").append(x.back(left > 0 ? 1 : 0));
        }
        return all.toString();
    }

    private static String cellsOf(TownLisp x, int k) {
        StringBuilder all = new StringBuilder();
        for (int lane = 0; lane < 3; lane++) {
            boolean there = true;
            for (int i = 0; i <= 60 && there; i++) {
                long cell = x.cell(k, i, lane);
                there = cell != TownLisp.LOST;
                all.append(' ').append(there ? cell : -10 - x.fault());
            }
        }
        return all.toString();
    }
}
