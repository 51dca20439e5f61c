/** The pools that the tests ask about, and all that stands in one. */
final class Pools {
    static final int NO_SUM = -1000000000;
    static final int LOW = Integer.MIN_VALUE;
    static final int HIGH = Integer.MAX_VALUE;

    static final int A = 0;
    static final int B = 1;
    static final int C = 2;
    static final int D = 3;
    static final int P = 0;
    static final int Q = 1;
    static final int R = 2;
    static final int T = 3;
    static final int U = 4;
    static final int M = 0;
    static final int N = 1;
    static final int O = 2;

    static final String TEXT = "land a all both 10; land b like leads 20; land c own sides 5; land d like both 7;\n"
        + "player p a; player q b; player r c; player t d; player u a;\n"
        + "session m p first q side unknown 2; session n r first t first; session o t side unknown 1;\n"
        + "keep 2;";
    static final int LINES = 13;

    /** As much of all as can be told: the first and the last session have eight players and five unknown ones. */
    static final String FULL = "land a all both 1;land b like leads 20;land c own sides 5;land d like both 7;land e all sides 999;"
        + "land f like both 3;player g a;player h b;player i c;player j d;player k e;player l f;player m a;player n b;player o c;"
        + "player p d;player q e;player r f;player s a;player t b;player u c;player v f;"
        + "session w g first h side i first j side k first l side m first n side unknown 5;session x unknown 5;"
        + "session y v side unknown 5;session z v first unknown 5;session wa g first unknown 5;session xa unknown 5;"
        + "session ya unknown 5;session za o side p first q side r first s side t first u side v first unknown 5;keep 9;lead 55;";

    private Pools() {
    }

    static RightsPool fresh() {
        return Texts.pool(TEXT);
    }

    /** a: 1000 (paid 734, kept 266), b: 200 (120, box 80), c: 100 (kept 25, box 75), d: 91 (52, 18, 21). */
    static RightsPool played() {
        RightsPool x = fresh();
        x.play(A, M, 100);
        x.play(B, M, 10);
        x.play(C, N, 10);
        x.play(C, O, 10);
        x.play(D, M, 10);
        x.play(D, N, 3);
        return x;
    }

    /** All that was kept lapsed: boxes 266, 80, 100, 39. */
    static RightsPool aged() {
        RightsPool x = played();
        x.year();
        x.year();
        return x;
    }

    /** Both seats of m are claimed, by r and u; boxes but that of c are parted. */
    static RightsPool claimed() {
        RightsPool x = aged();
        x.claim(R, M);
        x.claim(U, M);
        x.partAll();
        return x;
    }

    /** All that stands there but the tape and the fault, by some two hundred calls: an object has 512. */
    static String state(RightsPool x) {
        StringBuilder all = new StringBuilder("counts");
        for (int what = 0; what <= 8; what++) {
            all.append(' ').append(x.count(what));
        }
        for (int what = 0; what <= 5; what++) {
            all.append(' ').append(x.money(what));
        }
        for (int l = 0; l < x.count(1); l++) {
            landState(x, l, all.append("; land"));
        }
        for (int p = 0; p < x.count(2); p++) {
            all.append("; player ").append(x.player(p, 0));
            for (int l = 0; l < x.count(1); l++) {
                all.append(' ').append(x.paid(p, l, 1)).append('+').append(x.paid(p, l, 2));
            }
        }
        for (int s = 0; s < x.count(3); s++) {
            sessionState(x, s, all.append("; session"));
        }
        return all.toString();
    }

    private static void landState(RightsPool x, int l, StringBuilder all) {
        for (int what = 0; what <= 7; what++) {
            all.append(' ').append(x.land(l, what));
        }
    }

    private static void sessionState(RightsPool x, int s, StringBuilder all) {
        for (int what = 0; what <= 6; what++) {
            all.append(' ').append(x.session(s, what));
        }
        for (int k = 0; x.of(s, k, 0) >= 0; k++) {
            all.append(" of ").append(x.of(s, k, 0)).append(' ').append(x.of(s, k, 1));
        }
        for (int seat = 0; seat < x.session(s, 2); seat++) {
            all.append(" seat ").append(x.seat(s, seat));
            for (int l = 0; l < x.count(1); l++) {
                all.append(' ').append(x.kept(l, s, seat, 0)).append('+').append(x.kept(l, s, seat, -1));
                all.append('-').append(x.lapsed(l, s, seat));
            }
        }
    }
}
