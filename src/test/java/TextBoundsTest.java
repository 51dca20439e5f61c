/** The boundaries of a new object, of the tape, of texts and their faults: promises 1 to 4, and the terms of a text. */
public final class TextBoundsTest {
    private static final Sentences DOC =
        new Sentences("TextBoundsTest", "The public face", "Terms", "Promise 1", "Promise 2", "Promise 3", "Promise 4");
    private static final String TERMS = "Terms";
    private static final String LAND = "land a all both 10;";
    private static final String PLAYER = LAND + "player p a;";
    private static final String[] WORDS = {"land", "player", "session", "unknown", "lead", "keep", "all", "like",
        "own", "both", "leads", "sides", "first", "side"};

    public static void main(String[] args) {
        tokens();
        lines();
        once();
        faults();
        newObject();
        feeding();
        reading();
        latestFault();
        DOC.end();
    }

    private static void due(String what, long got, long want) {
        DOC.due(what, got, want);
    }

    /** A text without a fault; the pool that it tells. */
    private static RightsPool good(String text, int lines) {
        RightsPool pool = new RightsPool();
        due(text, Texts.tell(pool, text), lines);
        due("fault of " + text, pool.fault(0), 0);
        return pool;
    }

    /** The place of the fault is where the sign | stands, which is not of the text. */
    private static void bad(int fault, String marked) {
        int place = marked.indexOf('|');
        RightsPool pool = new RightsPool();
        due(marked, Texts.tell(pool, marked.substring(0, place) + marked.substring(place + 1)), -1);
        due("fault of " + marked, pool.fault(0), fault);
        due("place in " + marked, pool.fault(1), place);
    }

    private static String numbered(int n, String before, String behind) {
        StringBuilder text = new StringBuilder();
        for (int k = 0; k < n; k++) {
            text.append(before).append((char) ('a' + k)).append(behind);
        }
        return text.toString();
    }

    private static String lands(int n) {
        return numbered(n, "land l", " all both 1;");
    }

    private static String players(int n) {
        return numbered(n, "player p", " a;");
    }

    private static String sessions(int n) {
        return numbered(n, "session s", " unknown 1;");
    }

    private static String members(int n) {
        return numbered(n, " p", " first");
    }

    private static void tokens() {
        DOC.says(TERMS, "A TEXT: { LINE ';' }", () -> {
            good("", 0);
            good("lead 1;", 1);
            good("lead 1;keep 1;", 2);
            bad(1, "|;");
            bad(1, "lead 1;|;");
            bad(1, "lead 1|");
            bad(1, "lead 1;keep 1|");
        });
        DOC.says(TERMS, "W: 1 .. 6 letters a .. z", () -> {
            good("land a all both 1; land abcdef all both 1; land z all both 1; land zzzzzz all both 1;", 4);
            bad(1, "land |abcdefg all both 1;");
            bad(1, "land |all both 1;");
            bad(1, "land |A all both 1;");
            bad(1, "land |Z all both 1;");
            bad(1, "land |` all both 1;");
            bad(1, "land |{ all both 1;");
        });
        DOC.says(TERMS, "none of these words (land, player, session, unknown, lead, keep, all, like, own, both, leads, sides,"
            + " first, side)", () -> {
                for (String word : WORDS) {
                    bad(1, "land |" + word + " all both 1;");
                    bad(1, LAND + "player |" + word + " a;");
                    bad(1, "session |" + word + " unknown 1;");
                }
                good("land lan all both 1; land lands all both 1; land sid all both 1; land firsts all both 1;", 4);
            });
        DOC.says(TERMS, "N: digits", () -> {
            due("all digits", good("land a all both 987; land b all both 654; land c all both 321; lead 0;", 4).land(1, 2), 654);
            due("0", good("lead 0;", 1).count(4), 0);
            bad(1, "lead |;");
            bad(1, "lead |/;");
            bad(1, "lead |:;");
            bad(1, "lead |-1;");
            bad(1, "lead |+1;");
        });
        DOC.says(TERMS, "Blanks 10, 32", () -> {
            good(" \n lead \n\n 1 \n ;\n\n  ", 1);
            for (int sign : new int[] {0, 9, 11, 13, 31, 33, 127, 128, 138, 160, 255}) {
                bad(1, "|" + (char) sign);
                bad(1, "lead 1; |" + (char) sign + " keep 1;");
            }
        });
    }

    private static void lines() {
        DOC.says(TERMS, "land, at most 6", () -> due("lands", good(lands(6), 6).count(1), 6));
        DOC.says(TERMS, "RATE 1 .. 999", () -> {
            RightsPool x = good("land a all both 1; land b all both 999;", 2);
            due("least", x.land(0, 2), 1);
            due("most", x.land(1, 2), 999);
            bad(2, "land a all both |0;");
            bad(2, "land a all both |1000;");
        });
        DOC.says(TERMS, "player, at most 16: a NAME, a LAND told ahead", () -> {
            RightsPool x = good(LAND + "land b all both 1;" + numbered(15, "player p", " a;") + "player q b;", 18);
            due("players", x.count(2), 16);
            due("the last one's land", x.player(15, 0), 1);
            bad(1, "player p |a;" + LAND);
            bad(1, LAND + "player p |b; land b all both 1;");
            bad(1, PLAYER + "player q |p;");
            bad(1, LAND + "player p |p;");
        });
        DOC.says(TERMS, "session, at most 8", () -> due("sessions", good(sessions(8), 8).count(3), 8));
        DOC.says(TERMS, "its PLAYERS (told ahead, each once) with ROLES, 8 at most", () -> {
            RightsPool x = good(LAND + players(8) + "session s" + members(8) + ";", 10);
            due("the last one", x.of(0, 7, 0), 7);
            due("no more", x.of(0, 8, 0), -2);
            bad(1, LAND + "session s |p first; player p a;");
            bad(1, PLAYER + "session s |a first;");
            bad(1, PLAYER + "session s |s first;");
            bad(3, PLAYER + "session s p first |p first;");
            bad(1, PLAYER + "session s p |;");
        });
        DOC.says(TERMS, "then 1 .. 5 UNKNOWN ones (none without)", () -> {
            due("least", good("session s unknown 1;", 1).session(0, 2), 1);
            due("most", good("session s unknown 5;", 1).session(0, 2), 5);
            due("none", good(PLAYER + "session s p first;", 3).session(0, 2), 0);
            bad(2, "session s unknown |0;");
            bad(2, "session s unknown |6;");
            bad(1, PLAYER + "session s unknown 1 |p first;");
            bad(1, "session s unknown |;");
        });
        DOC.says(TERMS, "one of all at least", () -> {
            good(PLAYER + "session s p side;", 3);
            good("session s unknown 1;", 1);
            bad(4, "session s|;");
        });
    }

    private static void once() {
        DOC.says(TERMS, "lead: 0 .. 100 (60)", () -> {
            due("least", good("lead 0;", 1).count(4), 0);
            due("most", good("lead 100;", 1).count(4), 100);
            due("without", good("", 0).count(4), 60);
            bad(2, "lead |101;");
        });
        DOC.says(TERMS, "keep: 1 .. 9 (3): each once", () -> {
            due("least", good("keep 1;", 1).count(5), 1);
            due("most", good("keep 9;", 1).count(5), 9);
            due("without", good("", 0).count(5), 3);
            bad(2, "keep |0;");
            bad(2, "keep |10;");
            bad(3, "keep 3;|keep 3;");
            bad(3, "lead 60;|lead 60;");
            good("lead 60;keep 3;", 2);
            // the text ahead of it does not count
            RightsPool again = good("lead 5;keep 5;", 2);
            due("told in another text", Texts.tell(again, "lead 6;keep 6;"), 2);
        });
        DOC.says(TERMS, "LANDS, PLAYERS, SESSIONS are numbered from 0 on", () -> {
            RightsPool x = good("land a all both 7; land b own leads 8; player p b; player q a; session s q side; session r"
                + " p first;", 6);
            due("land 0", x.land(0, 2), 7);
            due("land 1", x.land(1, 2), 8);
            due("player 0", x.player(0, 0), 1);
            due("player 1", x.player(1, 0), 0);
            due("session 0", x.of(0, 0, 0), 1);
            due("session 1", x.of(1, 0, 0), 0);
        });
        DOC.says(TERMS, "NAMES of all three sorts together are unlike", () -> {
            bad(3, LAND + "land |a all both 1;");
            bad(3, LAND + "player |a a;");
            bad(3, LAND + "session |a unknown 1;");
            bad(3, PLAYER + "land |p all both 1;");
            bad(3, PLAYER + "player |p a;");
            bad(3, PLAYER + "session |p p first;");
            bad(3, "session s unknown 1;land |s all both 1;");
            bad(3, LAND + "session s unknown 1;player |s a;");
            bad(3, "session s unknown 1;session |s unknown 1;");
            good("land a all both 1; land aa all both 1; player aaa a; session b unknown 1;", 4);
            good("land a all both 1; land ba all both 1; land b all both 1; land bb all both 1; land ab all both 1; land z all"
                + " both 1; player za a; player az a; player zz a; session bba unknown 1; session abb unknown 1;", 11);
            // as many letters as can be, unlike in the last one, and in the first one
            good("land abcdef all both 1; land abcdeg all both 1; land bbcdef all both 1;", 3);
        });
    }

    private static void faults() {
        DOC.says(TERMS, "the first along the text (of one place the least), with its place", () -> {
            bad(2, "land a all both |0; land a all");
            bad(3, LAND + "land |a all both 0;");
            bad(4, "session s|; lead 101;");
            // not told goes ahead of a ninth one, that ahead of told already
            bad(1, LAND + players(8) + "session s" + members(8) + " |x first;");
            bad(2, LAND + players(8) + "session s" + members(8) + " |pa first;");
        });
        DOC.says(TERMS, "1 a TOKEN that is none (a word of more letters, too, but session, player, unknown, at its first)", () -> {
            bad(1, "|,");
            bad(1, "lead 1 |, ;");
            bad(1, "land |abcdefg all both 1;");
            bad(1, "|abcdefghijklmnopqrstuvwxyzabcdefghijklmnopqrstuvwxyz");
            bad(1, "|sessions s unknown 1;");
            bad(1, LAND + "|players p a;");
            bad(1, "session s |unknowns 1;");
            good(PLAYER + "session s p side unknown 1;", 3);
        });
        DOC.says(TERMS, "or can't stand there (a W that isn't told, the length, if more must come)", () -> {
            bad(1, "|a;");
            bad(1, "|all;");
            bad(1, "land a |both all 1;");
            bad(1, LAND + "player p |b;");
            bad(1, LAND + "session s |b first;");
            bad(1, "land|");
            bad(1, "land a all both 1|");
            bad(1, "land a all both 1 \n|");
            bad(1, "session s|");
            bad(1, "session s unknown 1|");
            RightsPool whole = new RightsPool();
            due("900 bytes", Texts.tell(whole, "lead 1" + " ".repeat(894)), -1);
            due("their length", whole.fault(1), 900);
        });
        DOC.says(TERMS, "2 a number beyond what is said (at it)", () -> {
            for (String much : new String[] {"1000", "65537", "4294967297", "18446744073709551617",
                "340282366920938463463374607431768211457", "1" + "0".repeat(300)}) {
                bad(2, "land a all both |" + much + ";");
                bad(2, "session s unknown |" + much + ";");
                bad(2, "lead |" + much + ";");
                bad(2, "keep |" + much + ";");
            }
        });
        DOC.says(TERMS, "a seventh land, 17th player, ninth session (at the word)", () -> {
            bad(2, lands(6) + "|land x all both 1;");
            bad(2, LAND + players(16) + "|player x a;");
            bad(2, sessions(8) + "|session x unknown 1;");
        });
        DOC.says(TERMS, "a ninth PLAYER of a session (at it)", () ->
            bad(2, LAND + players(9) + "session s" + members(8) + " |pi first;"));
        DOC.says(TERMS, "3 told already: a NAME, a PLAYER of that session (at it), lead, keep (at the word)", () -> {
            bad(3, LAND + "land |a");
            bad(3, PLAYER + "session s p side |p");
            bad(3, "lead 1; |lead");
            bad(3, "keep 1; |keep");
            good(PLAYER + "session s p first; session t p first;", 4);
        });
        DOC.says(TERMS, "4 (at the ;) a session of nobody", () -> {
            bad(4, "session s|;");
            bad(4, "session s \n |;");
            bad(4, PLAYER + "session s p first; session t |;");
        });
    }

    private static void newObject() {
        DOC.says("The public face", "public static final int NONE = -1", () -> due("NONE", RightsPool.NONE, -1));
        DOC.promise(1, "No LANDS, PLAYERS, SESSIONS, lead 60, keep 3, YEAR 0, an empty TAPE", () -> {
            RightsPool x = new RightsPool();
            int[] counts = {0, 0, 0, 0, 60, 3, 0, 0, 0, 0};
            for (int what = 0; what < counts.length; what++) {
                due("count " + what, x.count(what), counts[what]);
            }
            for (int what = 0; what < 6; what++) {
                due("money " + what, x.money(what), 0);
            }
            due("no land", Check.answerOf(() -> x.land(0, 0)), Check.OUTSIDE);
            due("no player", Check.answerOf(() -> x.player(0, 0)), Check.OUTSIDE);
            due("no session", Check.answerOf(() -> x.session(0, 0)), Check.OUTSIDE);
            due("no byte", x.text(1), -2);
            due("nothing to undo", x.undo(), -1);
        });
    }

    private static void feeding() {
        DOC.promise(2, "Twenty bytes come behind the TAPE, four of each number, the highest first: how many it has", () -> {
            RightsPool x = new RightsPool();
            // "lead 7;keep 4;land a" and " all both 345;" with bytes beyond 127 behind it
            due("first", x.feed(0x6c656164, 0x20373b6b, 0x65657020, 0x343b6c61, 0x6e642061), 20);
            due("second", x.feed(0x20616c6c, 0x20626f74, 0x68203334, 0x353bff80, -1), 40);
            due("told", x.text(34), 3);
            due("lead", x.count(4), 7);
            due("keep", x.count(5), 4);
            due("rate", x.land(0, 2), 345);
            x.feed(0x202020ff, -1, -1, -1, -1);
            due("a byte of 255", x.text(20), -1);
            due("its place", x.fault(1), 3);
        });
        DOC.promise(2, "NONE, and none come, if it would have more than 900", () -> {
            RightsPool x = new RightsPool();
            for (int k = 1; k <= 45; k++) {
                due("feed " + k, x.feed(0x20202020, 0x20202020, 0x20202020, 0x20202020, 0x20202020), 20 * k);
            }
            due("beyond", x.feed(-1, -1, -1, -1, -1), -1);
            due("beyond again", x.feed(-1, -1, -1, -1, -1), -1);
            due("none came", x.count(9), 900);
            due("900 blanks", x.text(900), 0);
            due("room again", x.feed(0, 0, 0, 0, 0), 20);
        });
    }

    private static void reading() {
        DOC.promise(3, "The TAPE's first n bytes (it is empty then) are the TEXT", () -> {
            RightsPool x = new RightsPool();
            Texts.feed(x, "lead 1;keep 2;lead 3");
            due("some", x.text(14), 2);
            due("the rest is gone", x.count(9), 0);
            due("nothing is left", x.text(1), -2);
            Texts.feed(x, "lead 1;keep 2;lead 3");
            due("a cut word", x.text(9), -1);
            due("its place", x.fault(1), 7);
            due("empty with a fault, too", x.count(9), 0);
            Texts.feed(x, "lead 1;keep 2;lead 3");
            due("a word cut by its last letter", x.text(10), -1);
            due("no word to be told by", x.fault(1), 7);
            Texts.feed(x, "lead 10;            ");
            due("a cut number", x.text(6), -1);
            due("more must come", x.fault(1), 6);
            Texts.feed(x, "lead 1;keep 2;lead 3");
            due("none of it", x.text(0), 0);
            due("empty by none of it", x.count(9), 0);
            due("the empty text", x.count(4), 60);
            Texts.feed(x, "lead 9;keep 4;      ");
            due("all of it", x.text(20), 2);
            due("empty by all of it", x.count(9), 0);
            due("as much as can be", Texts.tell(x, "lead " + "0".repeat(893) + "8;"), 1);
            due("to its last bytes", x.count(4), 8);
            due("as many tokens as bytes", Texts.tell(x, "lead 6;lead" + ";".repeat(889)), -1);
            due("told already", x.fault(1), 7);
            due("all of them wrong", Texts.tell(x, ";".repeat(900)), -1);
            due("the first", x.fault(1), 0);
            due("none of it is left", Texts.tell(x, "lead 7;"), 1);
        });
        DOC.promise(3, "(YEAR 0, no money, all SEATS OPEN, nothing to undo)", () -> {
            RightsPool x = Pools.claimed();
            x.terms(Pools.A, 1, 1);
            x.move(Pools.P, Pools.D);
            due("anew", Texts.tell(x, Pools.TEXT), Pools.LINES);
            DOC.due("as new", Pools.state(x), Pools.state(Pools.fresh()));
            due("nothing to undo", x.undo(), -1);
            RightsPool y = Pools.claimed();
            due("the empty text", y.text(0), 0);
            DOC.due("as made", Pools.state(y), Pools.state(new RightsPool()));
            RightsPool kept = Pools.played();
            Texts.tell(kept, Pools.TEXT);
            DOC.due("nothing is kept", Pools.state(kept), Pools.state(Pools.fresh()));
            RightsPool boxed = Pools.aged();
            Texts.tell(boxed, Pools.TEXT);
            DOC.due("nothing is lapsed", Pools.state(boxed), Pools.state(Pools.fresh()));
        });
        DOC.promise(3, "are the TEXT", () -> {
            // of a text ahead of it nothing is left, however much that told
            RightsPool x = new RightsPool();
            for (int k = 0; k < 3; k++) {
                due("full", Texts.tell(x, Pools.FULL), 32);
                x.play(5, 7, 9);
                due("empty", x.text(0), 0);
                due("lead", x.count(4), 60);
                due("keep", x.count(5), 3);
                due("lands", x.count(1), 0);
                due("one", Texts.tell(x, "land z own leads 3; session s unknown 1;"), 2);
                due("open seats", x.count(7), 1);
            }
            DOC.due("as a new one", Pools.state(x), Pools.state(Texts.pool("land z own leads 3; session s unknown 1;")));
        });
        DOC.promise(3, "how many LINES", () -> {
            good("", 0);
            good(" \n", 0);
            good(lands(6) + "player p la;" + "lead 1;keep 1;" + sessions(8), 17);
        });
        DOC.promise(3, "NONE with a FAULT, all else stays", () -> {
            for (String text : new String[] {Pools.TEXT + "x", "land z own leads 3; session", "lead 5; keep 6; lead 5;", ";"}) {
                RightsPool x = Pools.claimed();
                due(text, Texts.tell(x, text), -1);
                DOC.due("after " + text, Pools.state(x), Pools.state(Pools.claimed()));
                due("what can be undone", x.undo(), 10);
            }
        });
        DOC.promise(3, "-2, and the TAPE stays: there are not so many, n is below 0", () -> {
            RightsPool x = new RightsPool();
            due("none there", x.text(1), -2);
            Texts.feed(x, "lead 7;             ");
            for (int n : new int[] {21, 900, 901, Pools.HIGH, -1, Pools.LOW}) {
                due("text " + n, x.text(n), -2);
                due("it stays", x.count(9), 20);
            }
            due("nothing was read", x.count(4), 60);
            due("as it was", x.text(20), 1);
            due("read now", x.count(4), 7);
        });
    }

    private static void latestFault() {
        DOC.promise(4, "Of the latest text() that was not -2", () -> {
            RightsPool x = new RightsPool();
            Texts.tell(x, "lead 101;");
            x.text(-1);
            x.text(1);
            due("the fault stays", x.fault(0), 2);
            due("its place stays", x.fault(1), 5);
            Texts.tell(x, "session s;");
            due("a later one", x.fault(0), 4);
            due("a later place", x.fault(1), 9);
            Texts.tell(x, "lead 1;");
            due("none", x.fault(0), 0);
            x.text(1);
            due("still none", x.fault(0), 0);
        });
        DOC.promise(4, "what 0: its FAULT (0 without, and ahead of any)", () -> {
            RightsPool x = new RightsPool();
            due("ahead of any", x.fault(0), 0);
            x.text(0);
            due("without", x.fault(0), 0);
            Texts.tell(x, "lead 1; lead 1;");
            due("with", x.fault(0), 3);
            x.text(0);
            due("without again", x.fault(0), 0);
        });
        DOC.promise(4, "1: its place (NONE without)", () -> {
            RightsPool x = new RightsPool();
            due("ahead of any", x.fault(1), -1);
            x.text(0);
            due("without", x.fault(1), -1);
            Texts.tell(x, ";");
            due("the first place", x.fault(1), 0);
            x.text(0);
            due("without again", x.fault(1), -1);
        });
        DOC.promise(4, "NONE for another what", () -> {
            RightsPool x = new RightsPool();
            DOC.dueOutside("without a fault", 2, -1, x::fault);
            Texts.tell(x, "lead 101;");
            DOC.dueOutside("with a fault", 2, -1, x::fault);
        });
    }
}
