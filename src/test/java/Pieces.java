import java.util.Arrays;

/** Pieces that several tests use. */
final class Pieces {
    static final int[] MAJOR = {5, 0, 3, 0, 3, 3, 0, 3, 0, 3, 0, 3};
    static final int[] MINOR = {5, 0, 3, 3, 0, 3, 0, 3, 3, 0, 0, 3};

    private Pieces() {
    }

    /** A piece with so many slices without weights. */
    static KeyWalks silent(int slices) {
        KeyWalks x = new KeyWalks();
        for (int s = 0; s < slices; s++) {
            x.slice();
        }
        return x;
    }

    /** One slice for each text, which tells pitches and weights: "0:4 7:2". */
    static KeyWalks of(String... slices) {
        KeyWalks x = new KeyWalks();
        add(x, slices);
        return x;
    }

    static void add(KeyWalks x, String... slices) {
        for (String notes : slices) {
            int s = x.slice();
            for (String note : notes.split(" ")) {
                int colon = note.indexOf(':');
                if (colon > 0) {
                    x.note(s, Integer.parseInt(note.substring(0, colon)), Integer.parseInt(note.substring(colon + 1)));
                }
            }
        }
    }

    static void profiles(KeyWalks x, int[] major, int[] minor) {
        for (int step = 0; step < 12; step++) {
            x.profile(0, step, major[step]);
            x.profile(1, step, minor[step]);
        }
    }

    /** Twelve times one number, but for the steps named behind it, which have another one. */
    static int[] numbers(int usual, int other, int... steps) {
        int[] row = new int[12];
        Arrays.fill(row, usual);
        for (int step : steps) {
            row[step] = other;
        }
        return row;
    }

    /** The chord on a key's own tonic, which at first that key alone fits best: with 4 * 5 + 2 * 3 + 2 * 3. */
    static String chord(int key) {
        int third = key < 12 ? 4 : 3;
        return key % 12 + ":4 " + (key + third) % 12 + ":2 " + (key + 7) % 12 + ":2";
    }

    /** Slices that only one key each fits best, heavy enough to be worth the turns. */
    static KeyWalks fromCToFSharp() {
        String c = "0:50 2:20 4:40 5:20 7:40 9:20 11:20";
        String fSharp = "6:50 8:20 10:40 11:20 1:40 3:20 5:20";
        return of(c, c, fSharp, fSharp, c);
    }

    /** Two slices, and nothing in it as at first, so that whatever goes astray is seen. */
    static KeyWalks two() {
        KeyWalks x = of("0:4 4:2 7:2", "7:3 11:2 2:200");
        x.profile(0, 9, 2);
        x.profile(1, 10, 4);
        x.costs(11, 6, 3);
        return x;
    }

    /** Forty slices; the last pitch of the last one is full. */
    static KeyWalks full() {
        KeyWalks x = silent(40);
        for (int s = 0; s < 40; s++) {
            x.note(s, s * 7 % 12, 1 + s);
        }
        x.note(39, 11, 200);
        return x;
    }

    /**
     * Slices that only C major fits and such that only E flat minor fits by turns, the two keys farthest apart. In any
     * other key a slice loses 200 * 99 at least, more than two of the dearest turns, so there is one best walk alone.
     */
    static KeyWalks forthAndBack(int slices) {
        KeyWalks x = new KeyWalks();
        profiles(x, numbers(0, 99, 0, 1, 3), numbers(0, 99, 0, 2, 3));
        x.costs(1000, 1000, 1000);
        for (int s = 0; s < slices; s++) {
            add(x, s % 2 == 0 ? "0:200 1:200 3:200" : "3:200 5:200 6:200");
        }
        return x;
    }

    /** Turns are for nothing, and a slice with so many pitches of weight 1 has so many best keys less than 24. */
    static KeyWalks freeTurns(int... soundingPitches) {
        KeyWalks x = new KeyWalks();
        profiles(x, numbers(1, 0, 0), numbers(1, 1));
        x.costs(0, 0, 0);
        for (int pitches : soundingPitches) {
            int s = x.slice();
            for (int pitch = 0; pitch < pitches; pitch++) {
                x.note(s, pitch, 1);
            }
        }
        return x;
    }
}
