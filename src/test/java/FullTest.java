import java.util.Arrays;

/** Pools of as many lands, players, sessions and seats as there may be, asked about the first and the last of them. */
public final class FullTest {
    private static final Check CHECK = new Check("FullTest");
    private static final int[] WHATS = {-1, 0, 1, 2, 3, 4, 5, 6, 7, 8, 9, 10};

    public static void main(String[] args) {
        for (Stage stage : Stage.values()) {
            for (String[] call : ModelTest.ASKED) {
                Twin twin = new Twin(CHECK, "full, " + stage);
                stage.reach(twin);
                askCorners(twin, call[0], call[1], new Object[0]);
            }
        }
        textsInTurn();
        CHECK.end();
    }

    /** How much has happened to the pool. */
    private enum Stage {
        TOLD, PLAYED, CLAIMED;

        void reach(Twin twin) {
            twin.tell(Pools.FULL);
            if (this != TOLD) {
                play(twin);
            }
            if (this == CLAIMED) {
                claim(twin);
            }
        }
    }

    private static void play(Twin twin) {
        for (int year = 0; year < 10; year++) {
            for (int l = 0; l < 6; l++) {
                twin.ask("play", l, year % 2 == 0 ? 7 : 0, 1000 + 7 * year + l);
            }
            twin.ask("year");
        }
        twin.ask("play", 5, 7, 99999);
        twin.ask("play", 0, 3, 99999);
    }

    private static void claim(Twin twin) {
        for (int p = 0; p < 4; p++) {
            twin.ask("claim", p, 7);
            twin.ask("claim", 15 - p, 0);
        }
        twin.ask("giveBack", 7, 2);
        twin.ask("giveBack", 0, 0);
        twin.ask("partAll");
        twin.ask("move", 15, 0);
        twin.ask("move", 0, 5);
        twin.ask("terms", 5, 0, 2);
        twin.ask("play", 5, 7, 31);
        twin.ask("play", 4, 7, 37);
        twin.ask("year");
        twin.ask("part", 5);
        twin.ask("undo");
    }

    private static int[] cornersOf(char sort) {
        return switch (sort) {
            case 'l' -> new int[] {0, 5};
            case 'p' -> new int[] {0, 15};
            case 's' -> new int[] {0, 7};
            case 'k' -> new int[] {0, 4, 5, 7, 8, 12, 13, 15, 16};
            case 'w' -> WHATS;
            case 'c' -> new int[] {1, 99999};
            case 'g' -> new int[] {-1, 0, 8, 9};
            case 'n' -> new int[] {1, 9};
            case 't' -> new int[] {0, 1, 2};
            case 'o' -> new int[] {1, 2, 3};
            default -> new int[] {0, 1};
        };
    }

    /** The call with each choice of corners for the arguments that are not chosen yet. */
    private static void askCorners(Twin twin, String call, String sorts, Object[] chosen) {
        if (chosen.length == sorts.length()) {
            twin.ask(call, chosen);
            return;
        }
        char sort = sorts.charAt(chosen.length);
        for (int corner : cornersOf(sort)) {
            Object[] more = Arrays.copyOf(chosen, chosen.length + 1);
            more[chosen.length] = sort == 'b' ? (Object) (corner == 1) : (Object) corner;
            askCorners(twin, call, sorts, more);
        }
    }

    /** A smaller text behind a greater one, and again a greater one: nothing is left of what was told ahead. */
    private static void textsInTurn() {
        String[] texts = {Pools.FULL, Pools.TEXT, Pools.FULL, "", Pools.TEXT, "session s unknown 1;", Pools.FULL};
        for (int last = 1; last < texts.length; last++) {
            Twin twin = new Twin(CHECK, "texts in turn " + last);
            for (int k = Math.max(0, last - 3); k <= last; k++) {
                twin.tell(texts[k]);
                playSome(twin);
            }
            for (String[] call : ModelTest.ASKED) {
                for (int which = 0; which < 3; which++) {
                    twin.ask(call[0], oneOfEach(call[1], which));
                }
            }
        }
    }

    private static void playSome(Twin twin) {
        for (int l = 0; l < twin.lands(); l++) {
            twin.ask("play", l, Math.max(0, twin.sessions() - 1 - l % 2), 50 + l);
        }
        twin.ask("year");
        twin.ask("claim", Math.max(0, twin.players() - 1), 0);
        twin.ask("partAll");
    }

    private static Object[] oneOfEach(String sorts, int which) {
        Object[] arguments = new Object[sorts.length()];
        for (int k = 0; k < arguments.length; k++) {
            char sort = sorts.charAt(k);
            int last = sort == 'p' ? 4 : sort == 's' ? 2 : sort == 'l' ? 3 : 1;
            int corner = which == 0 ? 0 : which == 1 ? 1 : last;
            boolean isOnFrom1 = sort == 'c' || sort == 'n' || sort == 'o';
            arguments[k] = sort == 'b' ? (Object) (corner == 0) : (Object) (isOnFrom1 ? corner + 1 : corner);
        }
        return arguments;
    }
}
