/** The faults of a text, each with its place, and texts that have none. */
public final class FaultTest {
    private static final Check CHECK = new Check("FaultTest");
    private static final String LAND = "land a all both 10;";
    private static final String PLAYER = LAND + "player p a;";

    public static void main(String[] args) {
        goodTexts();
        tokensThatAreNone();
        tokensThatCannotStand();
        theLengthIfMoreMustCome();
        numbersBeyond();
        tooMany();
        toldAlready();
        sessionsOfNobody();
        theFirstOfSeveral();
        textsCutOff();
        asManyTokensAsBytes();
        CHECK.end();
    }

    private static void good(String text, int lines) {
        RightsPool pool = new RightsPool();
        CHECK.due(text, Texts.tell(pool, text), lines);
        CHECK.due("fault of " + text, pool.fault(0), 0);
        CHECK.due("place in " + text, pool.fault(1), -1);
        CHECK.due("lines of " + text, pool.count(0), lines);
    }

    /** The place of the fault is where the sign | stands, which is not of the text. */
    private static void bad(int fault, String marked) {
        int place = marked.indexOf('|');
        String text = marked.substring(0, place) + marked.substring(place + 1);
        RightsPool pool = new RightsPool();
        CHECK.due(marked, Texts.tell(pool, text), -1);
        CHECK.due("fault of " + marked, pool.fault(0), fault);
        CHECK.due("place in " + marked, pool.fault(1), place);
        CHECK.due("lands after " + marked, pool.count(1), 0);
    }

    private static void goodTexts() {
        good("", 0);
        good(" \n \n", 0);
        good("land a all both 1;", 1);
        good("land abcdef own sides 999;", 1);
        good("land\na\nlike\nleads\n0000999\n;\n", 1);
        good("lead0;keep1;", 2);
        good("keep 9;lead 100;", 2);
        good("lead 000000000000000000000000000100;", 1);
        good("land a all both10;player p a;session s p first unknown5;", 3);
        good("session s unknown 1;", 1);
        good(PLAYER + "session s p side;", 3);
        good(lands(6), 6);
        good(LAND + players(16), 17);
        good(sessions(8), 8);
        good(LAND + players(8) + "session s" + members(8) + " unknown 5;", 10);
        good("land landa all both 1;player lands landa;session firsts lands first;", 3);
    }

    private static void tokensThatAreNone() {
        bad(1, "|A");
        bad(1, "|-");
        bad(1, "|\t");
        bad(1, "|\0");
        bad(1, "|\u00e9");
        bad(1, "|\u00ff");
        bad(1, "land |abcdefg all both 1;");
        bad(1, "land |sessions all both 1;");
        bad(1, "land a all both 10|, player p a;");
        bad(1, "land a all both |-1;");
        bad(1, "|sessionx s unknown 1;");
        bad(1, "|unknowns;");
        bad(1, LAND + "|\r\n");
        bad(1, "land a|B all both 1;");
        bad(1, "|abcdefghijklmnopqrstuvwxyzabcdefghijklmnopqrstuvwxyz;");
        // as many letters more as would make land of it, if letters ran over
        bad(1, "|aaaaaaaaland a all both 1;");
    }

    private static void tokensThatCannotStand() {
        bad(1, "|;");
        bad(1, "|a;");
        bad(1, "|1;");
        bad(1, "|unknown 1;");
        bad(1, "|all;");
        bad(1, LAND + "|;");
        bad(1, "land |land all both 1;");
        bad(1, "land |session all both 1;");
        bad(1, "land |side all both 1;");
        bad(1, "land |1 all both 1;");
        bad(1, "land a |both both 1;");
        bad(1, "land a |b both 1;");
        bad(1, "land a |keep both 1;");
        bad(1, "land a all |all 1;");
        bad(1, "land a all |first 1;");
        bad(1, "land a all both |;");
        bad(1, "land a all both |b;");
        bad(1, "land a all both 1 |2;");
        bad(1, "land a all both 1 |land b all both 1;");
        bad(1, "player p |a;");
        bad(1, LAND + "player p |p;");
        bad(1, LAND + "player p |b;");
        bad(1, LAND + "player p |land;");
        bad(1, LAND + "player p |;");
        bad(1, LAND + "player p |1;");
        bad(1, PLAYER + "player q |p;");
        bad(1, PLAYER + "session s |q first;");
        bad(1, PLAYER + "session s |a first;");
        bad(1, PLAYER + "session s |s first;");
        bad(1, PLAYER + "session s |first;");
        bad(1, PLAYER + "session s |1;");
        bad(1, PLAYER + "session s p |;");
        bad(1, PLAYER + "session s p |unknown 1;");
        bad(1, PLAYER + "session s p |sides;");
        bad(1, PLAYER + "session s p |leads;");
        bad(1, PLAYER + "session s p |p;");
        bad(1, PLAYER + "session s p first |1;");
        bad(1, PLAYER + "session s unknown |;");
        bad(1, PLAYER + "session s unknown |p;");
        bad(1, PLAYER + "session s unknown 1 |p first;");
        bad(1, PLAYER + "session s unknown 1 |unknown 1;");
        bad(1, "lead |;");
        bad(1, "lead |all;");
        bad(1, "lead 1 |1;");
        bad(1, "keep |a;");
    }

    private static void theLengthIfMoreMustCome() {
        bad(1, "land|");
        bad(1, "land |");
        bad(1, "land a|");
        bad(1, "land a all|");
        bad(1, "land a all  \n |");
        bad(1, "land a all both|");
        bad(1, "land a all both 1|");
        bad(1, "land a all both 1 \n|");
        bad(1, "player|");
        bad(1, LAND + "player p|");
        bad(1, LAND + "player p a|");
        bad(1, "session|");
        bad(1, "session s|");
        bad(1, PLAYER + "session s p|");
        bad(1, PLAYER + "session s p first|");
        bad(1, "session s unknown|");
        bad(1, "session s unknown 1|");
        bad(1, "lead|");
        bad(1, "lead 5|");
        bad(1, "keep 5|");
    }

    private static void numbersBeyond() {
        bad(2, "land a all both |0;");
        bad(2, "land a all both |1000;");
        bad(2, "land a all both |00001000;");
        bad(2, "land a all both |4294967297;");
        bad(2, "land a all both |18446744073709551617;");
        bad(2, "land a all both |100000000000000000000000000000000000001;");
        bad(2, "lead |101;");
        bad(2, "lead |4294967296;");
        bad(2, "keep |0;");
        bad(2, "keep |10;");
        bad(2, "session s unknown |0;");
        bad(2, "session s unknown |6;");
    }

    private static void tooMany() {
        bad(2, lands(6) + "|land");
        bad(2, lands(6) + "|land la");
        bad(2, LAND + players(16) + "|player pa;");
        bad(2, sessions(8) + "|session");
        bad(2, LAND + players(9) + "session s" + members(8) + " |pi first;");
        bad(2, LAND + players(9) + "session s" + members(8) + " |pi");
    }

    private static void toldAlready() {
        bad(3, LAND + "land |a all both 1;");
        bad(3, LAND + "player |a a;");
        bad(3, LAND + "session |a unknown 1;");
        bad(3, PLAYER + "land |p all both 1;");
        bad(3, PLAYER + "player |p a;");
        bad(3, PLAYER + "session |p p first;");
        bad(3, "session s unknown 1;land |s all both 1;");
        bad(3, LAND + "session s unknown 1;player |s a;");
        bad(3, "session s unknown 1;session |s unknown 1;");
        bad(3, PLAYER + "session s p first |p side;");
        bad(3, PLAYER + "session s p first |p");
        bad(3, "lead 5;|lead 5;");
        bad(3, "lead 60;|lead");
        bad(3, "keep 3;|keep 3;");
        bad(3, "lead 1;keep 3;" + LAND + "|keep");
    }

    private static void sessionsOfNobody() {
        bad(4, "session s|;");
        bad(4, "session s \n |;");
        bad(4, PLAYER + "session s p first;session t |;");
    }

    private static void theFirstOfSeveral() {
        bad(2, "land a all both |0;land a");
        bad(3, LAND + "land |a all both 0;");
        bad(1, "land a |A both 0;");
        // of one place the least: not told goes ahead of a ninth, that ahead of told already
        bad(1, LAND + players(9) + "session s" + members(8) + " |x first;");
        bad(1, LAND + players(9) + "session s" + members(8) + " |a first;");
        bad(2, LAND + players(9) + "session s" + members(8) + " |pa first;");
        bad(4, "session s|; session s unknown 1;");
        bad(1, "session s unknown 1|");
    }

    /** What lies behind the first n bytes is no part of the text, though it may go on a word or number. */
    private static void textsCutOff() {
        String text = "land ab all both 10;keep 3;session s unknown 2;";
        int[][] cuts = {{0, 0, -1}, {3, 1, 0}, {4, 1, 4}, {6, 1, 6}, {7, 1, 7}, {10, 1, 8}, {11, 1, 11}, {17, 1, 17},
            {18, 1, 18}, {19, 1, 19}, {20, 0, -1}, {25, 1, 25}, {27, 0, -1}, {33, 1, 27}, {34, 1, 34}, {46, 1, 46}, {47, 0, -1}};
        for (int[] cut : cuts) {
            RightsPool pool = new RightsPool();
            Texts.feed(pool, text);
            CHECK.due("cut at " + cut[0], pool.text(cut[0]) >= 0, cut[1] == 0);
            CHECK.due("fault, cut at " + cut[0], pool.fault(0), cut[1]);
            CHECK.due("place, cut at " + cut[0], pool.fault(1), cut[2]);
        }
    }

    private static void asManyTokensAsBytes() {
        for (String sign : new String[] {";", "A", "a1", ";a", "1;"}) {
            bad(1, "|" + sign.repeat(900 / sign.length()));
        }
        bad(3, "lead 6;|lead" + ";".repeat(889));
        RightsPool pool = new RightsPool();
        Texts.tell(pool, ";".repeat(900));
        CHECK.due("nothing of an earlier text is left", Texts.tell(pool, "lead 7;"), 1);
        CHECK.due("lead", pool.count(4), 7);
    }

    private static String lands(int n) {
        return lines(n, "land l", " all both 1;");
    }

    private static String players(int n) {
        return lines(n, "player p", " a;");
    }

    private static String sessions(int n) {
        return lines(n, "session s", " unknown 1;");
    }

    private static String lines(int n, String before, String behind) {
        StringBuilder text = new StringBuilder();
        for (int k = 0; k < n; k++) {
            text.append(before).append((char) ('a' + k)).append(behind);
        }
        return text.toString();
    }

    private static String members(int n) {
        StringBuilder text = new StringBuilder();
        for (int k = 0; k < n; k++) {
            text.append(" p").append((char) ('a' + k)).append(k % 2 == 0 ? " first" : " side");
        }
        return text.toString();
    }
}
