import java.util.ArrayList;
import java.util.Collections;
import java.util.List;
import java.util.Random;

/** Every call of the face, with all sorts of arguments, against the plain model of the document. */
public final class ModelTest {
    // what each argument is: l land, p player, s session, k a place, w what, c copies, r role,
    // t term, o roles, g ago, n years, i any number, b balance, x bytes
    static final String[][] ASKED = {
        {"fault", "w"}, {"land", "lw"}, {"player", "pw"}, {"session", "sw"}, {"of", "skw"},
        {"seat", "sk"}, {"role", "ps"}, {"pays", "llr"}, {"paidBy", "lr"}, {"answer", "ll"},
        {"ring", "l"}, {"rings", ""}, {"paid", "plw"}, {"kept", "lskg"}, {"lapsed", "lsk"},
        {"lapses", "ln"}, {"share", "lsck"}, {"wouldPlay", "lscw"}, {"wouldClaim", "ps"},
        {"bestClaim", "pw"}, {"claimant", "sw"}, {"wouldPart", "lp"}, {"gain", "plscto"},
        {"pairs", "rlto"}, {"most", "lw"}, {"ranked", "k"}, {"across", "llb"}, {"idle", ""},
        {"nextLapse", "l"}, {"bestLand", "pscw"}, {"net", "l"}, {"extreme", "w"}, {"round", "lw"},
        {"bestTerms", "lw"}, {"unknown", "w"}, {"statement", "pkw"}, {"moveGain", "pl"},
        {"bestHome", "pw"}, {"answers", "l"}, {"poorest", "lw"}, {"openSeats", "s"}, {"late", "s"},
        {"split", "lscw"}, {"dearest", "w"}, {"reached", "ls"}, {"money", "w"}, {"count", "w"},
    };
    private static final String[][] DONE = {
        {"play", "lsc"}, {"play", "lsc"}, {"play", "lsc"}, {"play", "lsc"}, {"year", ""}, {"year", ""},
        {"claim", "ps"}, {"claim", "ps"}, {"part", "l"}, {"terms", "lto"}, {"partAll", ""},
        {"move", "pl"}, {"giveBack", "sk"}, {"giveBack", "sk"}, {"undo", ""}, {"undo", ""},
        {"feed", "iiiii"}, {"text", "x"},
    };

    private final Check check = new Check("ModelTest");
    private final Random random;
    private final Twin twin;
    private final int seed;
    private final int bigness;

    private ModelTest(int seed) {
        this.seed = seed;
        this.random = new Random(seed);
        this.twin = new Twin(check, "run " + seed);
        this.bigness = seed % 4;
    }

    public static void main(String[] args) {
        int runs = args.length > 0 ? Integer.parseInt(args[0]) : 2000;
        Check all = new Check("ModelTest");
        for (int seed = 0; seed < runs; seed++) {
            ModelTest test = new ModelTest(seed);
            test.run();
            all.due("wrong answers of run " + seed, test.check.wrongOnes(), 0);
        }
        all.end();
    }

    private void run() {
        // a text with a fault leaves nothing to ask about
        for (int k = 0; k < seed % 8 && twin.sessions() == 0; k++) {
            tellSome();
        }
        while (twin.callsLeft() > ASKED.length && check.wrongOnes() == 0) {
            if (random.nextInt(300) == 0) {
                tellSome();
            } else {
                callOne();
            }
        }
        for (int k = 0; k < ASKED.length && twin.callsLeft() > 0; k++) {
            call(ASKED[k]);
        }
    }

    private void callOne() {
        String[][] from = random.nextInt(3) == 0 ? DONE : ASKED;
        String[] call = from[random.nextInt(from.length)];
        // a text of a few bytes would end most runs at once
        if (!call[0].equals("text") || random.nextInt(12) == 0) {
            call(call);
        }
    }

    private void tellSome() {
        String text = TextMaker.make(random, random.nextInt(3) == 0);
        while (text.length() > 900) {
            text = TextMaker.make(random, false);
        }
        if (twin.callsLeft() >= Twin.callsToTell(text)) {
            twin.tell(text);
        }
    }

    private int argument(char sort) {
        // of years below NONE the document does not speak plainly
        if (sort != 'g' && random.nextInt(60) == 0) {
            int[] odd = {Integer.MIN_VALUE, Integer.MAX_VALUE, -3, 1 << 30, 100, -100};
            return odd[random.nextInt(odd.length)];
        }
        return switch (sort) {
            case 'l' -> near(twin.lands());
            case 'p' -> near(twin.players());
            case 's' -> near(twin.sessions());
            case 'k' -> near(random.nextBoolean() ? 2 : 6);
            case 'w' -> near(random.nextInt(3) == 0 ? 10 : 2);
            case 'c' -> copies();
            case 'r' -> near(2);
            case 't' -> near(3);
            case 'o' -> 1 + near(3);
            case 'g' -> Math.max(-1, near(10) - random.nextInt(2));
            case 'n' -> 1 + near(9);
            case 'b' -> random.nextInt(2);
            case 'x' -> near(40);
            default -> random.nextInt();
        };
    }

    private int near(int n) {
        return random.nextInt(20) == 0 ? random.nextInt(n + 4) - 2 : random.nextInt(Math.max(n, 1));
    }

    private int copies() {
        int[] most = {7, 300, 20000, 99999};
        return random.nextInt(30) == 0 ? random.nextInt(3) * 50000 : 1 + random.nextInt(most[bigness]);
    }

    private void call(String[] call) {
        Object[] arguments = new Object[call[1].length()];
        for (int k = 0; k < arguments.length; k++) {
            int value = argument(call[1].charAt(k));
            boolean isBalance = call[1].charAt(k) == 'b';
            arguments[k] = isBalance ? (Object) (value % 2 == 0) : (Object) value;
        }
        twin.ask(call[0], arguments);
    }

    /** Texts by chance: most of them good, some with one or two tokens changed. */
    static final class TextMaker {
        private static final String[] TOKENS = {"land", "player", "session", "unknown", "lead", "keep", "all",
            "like", "own", "both", "leads", "sides", "first", "side", ";", ";", "0", "1", "5", "6", "9", "10", "100",
            "101", "999", "1000", "0007", "99999999999", "a", "aa", "ab", "ba", "zzzzzz", "zzzzzzz", "sessions",
            "unknowns", "players", "A", "-1", "\u00e9", "\t", "\n", "  ", ";;"};

        private TextMaker() {
        }

        static String make(Random random, boolean spoiled) {
            List<String> tokens = new ArrayList<>();
            int lands = 1 + random.nextInt(6);
            int players = random.nextInt(17);
            int sessions = random.nextInt(9);
            List<String> told = new ArrayList<>();
            String[] terms = {"all", "like", "own"};
            String[] roles = {"both", "leads", "sides"};
            if (random.nextBoolean()) {
                tokens.addAll(List.of("lead", "" + random.nextInt(101), ";"));
            }
            for (int l = 0; l < lands; l++) {
                int rate = random.nextInt(4) == 0 ? 999 : 1 + random.nextInt(30);
                tokens.addAll(List.of("land", "" + (char) ('a' + l), terms[random.nextInt(3)],
                    roles[random.nextInt(4) % 3], "" + rate, ";"));
            }
            for (int p = 0; p < players; p++) {
                String name = "p" + (char) ('a' + p);
                tokens.addAll(List.of("player", name, "" + (char) ('a' + random.nextInt(lands)), ";"));
                told.add(name);
            }
            for (int s = 0; s < sessions; s++) {
                sessionLine(random, tokens, told, "s" + (char) ('a' + s));
            }
            if (random.nextBoolean()) {
                tokens.addAll(List.of("keep", "" + (1 + random.nextInt(9)), ";"));
            }
            if (spoiled) {
                spoil(random, tokens);
            }
            return joined(random, tokens);
        }

        private static void sessionLine(Random random, List<String> tokens, List<String> told, String name) {
            tokens.addAll(List.of("session", name));
            List<String> left = new ArrayList<>(told);
            Collections.shuffle(left, random);
            int many = random.nextInt(5) == 0 ? 8 : random.nextInt(4);
            int added = Math.min(many, left.size());
            for (int k = 0; k < added; k++) {
                tokens.addAll(List.of(left.get(k), random.nextBoolean() ? "first" : "side"));
            }
            if (added == 0 || random.nextInt(3) != 0) {
                tokens.addAll(List.of("unknown", "" + (1 + random.nextInt(5))));
            }
            tokens.add(";");
        }

        private static void spoil(Random random, List<String> tokens) {
            for (int k = 0; k <= random.nextInt(2); k++) {
                int at = random.nextInt(tokens.size());
                String other = random.nextBoolean() ? TOKENS[random.nextInt(TOKENS.length)]
                    : tokens.get(random.nextInt(tokens.size()));
                switch (random.nextInt(4)) {
                    case 0 -> tokens.set(at, other);
                    case 1 -> tokens.add(at, other);
                    case 2 -> tokens.remove(at);
                    default -> tokens.subList(random.nextInt(tokens.size()), tokens.size()).clear();
                }
                if (tokens.isEmpty()) {
                    tokens.add(";");
                }
            }
        }

        private static String joined(Random random, List<String> tokens) {
            StringBuilder text = new StringBuilder();
            char last = ' ';
            for (String token : tokens) {
                boolean runsOn = Character.isLowerCase(last) && Character.isLowerCase(token.charAt(0))
                    || Character.isDigit(last) && Character.isDigit(token.charAt(0));
                if (runsOn || random.nextInt(6) == 0) {
                    text.append(random.nextInt(5) == 0 ? '\n' : ' ');
                }
                text.append(token);
                last = token.charAt(token.length() - 1);
            }
            return text.toString();
        }
    }
}
