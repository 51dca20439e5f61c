/** Each promise of the document by runs whose answers were reckoned by hand. */
public final class PromiseTest {
    private static final Check CHECK = new Check("PromiseTest");
    private static final int NO_SUM = Pools.NO_SUM;
    private static final int LOW = Pools.LOW;
    private static final int HIGH = Pools.HIGH;

    private static final int A = Pools.A;
    private static final int B = Pools.B;
    private static final int C = Pools.C;
    private static final int D = Pools.D;
    private static final int P = Pools.P;
    private static final int Q = Pools.Q;
    private static final int R = Pools.R;
    private static final int T = Pools.T;
    private static final int U = Pools.U;
    private static final int M = Pools.M;
    private static final int N = Pools.N;
    private static final int O = Pools.O;

    public static void main(String[] args) {
        newObject();
        tape();
        landsPlayersSessions();
        whoPaysWhom();
        playing();
        years();
        claims();
        parting();
        otherTermsAndHomes();
        moneyTold();
        whatWouldBe();
        rounds();
        CHECK.end();
    }

    private static void due(String what, long got, long want) {
        CHECK.due(what, got, want);
    }

    private static void due(String what, boolean got, boolean want) {
        CHECK.due(what, got, want);
    }

    private static void newObject() {
        RightsPool x = new RightsPool();
        int[] counts = {0, 0, 0, 0, 60, 3, 0, 0, 0, 0};
        for (int w = 0; w < counts.length; w++) {
            due("1: count " + w, x.count(w), counts[w]);
        }
        for (int w = 0; w < 6; w++) {
            due("1: money " + w, x.money(w), 0);
        }
        due("1: NONE", RightsPool.NONE, -1);
        due("1: rings", x.rings(), 0);
        due("1: idle", x.idle(), 0);
        due("1: undo", x.undo(), -1);
        due("1: year", x.year(), 0);
        due("1: year told", x.count(6), 1);
    }

    private static void tape() {
        RightsPool x = new RightsPool();
        for (int k = 1; k <= 45; k++) {
            due("2: feed " + k, x.feed(0x20202020, 0x0a0a0a0a, 0x20202020, 0x20202020, 0x20202020), 20 * k);
        }
        due("2: beyond 900", x.feed(0, 0, 0, 0, 0), -1);
        due("2: none came", x.count(9), 900);
        due("3: more than there are", x.text(901), -2);
        due("3: below 0", x.text(-1), -2);
        due("3: low", x.text(LOW), -2);
        due("3: high", x.text(HIGH), -2);
        due("3: the tape stays", x.count(9), 900);
        due("3: all of it", x.text(900), 0);
        due("3: it is empty then", x.count(9), 0);
        due("2: highest first", x.feed(0x6c656164, 0x20373b6b, 0x65657020, 0x343bffff, 0x80808080), 20);
        due("3: the first n bytes", x.text(14), 2);
        due("3: lead", x.count(4), 7);
        due("3: keep", x.count(5), 4);
        due("3: the rest is gone", x.count(9), 0);
        x.feed(0xff202020, 0x80808080, 0, 0, 0);
        due("3: a fault", x.text(20), -1);
        due("4: fault", x.fault(0), 1);
        due("4: place", x.fault(1), 0);
        due("4: what 2", x.fault(2), -1);
        due("4: what -1", x.fault(-1), -1);
        due("3: empty with a fault, too", x.count(9), 0);
        due("3: all else stays", x.count(4), 7);
        due("3: too few", x.text(1), -2);
        due("4: stays with -2", x.fault(0), 1);
        due("3: nothing", x.text(0), 0);
        due("4: without", x.fault(0), 0);
        due("4: no place", x.fault(1), -1);
        due("3: lead again", x.count(4), 60);
        due("3: keep again", x.count(5), 3);
        longText();
        due("4: a new one", new RightsPool().fault(0), 0);
        due("4: a new one's place", new RightsPool().fault(1), -1);
    }

    private static void longText() {
        RightsPool x = new RightsPool();
        StringBuilder text = new StringBuilder("lead ");
        while (text.length() < 898) {
            text.append('0');
        }
        due("3: 900 bytes", Texts.tell(x, text.append("9;").toString()), 1);
        due("3: a long number", x.count(4), 9);
        text.setLength(899);
        due("3: 899 bytes", Texts.tell(x, text.toString()), -1);
        due("4: at the length", x.fault(1), 899);
    }

    private static void landsPlayersSessions() {
        RightsPool x = Pools.played();
        int[][] lands = {{0, 3, 10, 0, 1000, 734, 266, 2}, {1, 1, 20, 80, 200, 120, 0, 1},
            {2, 2, 5, 75, 100, 0, 25, 1}, {1, 3, 7, 21, 91, 52, 18, 1}};
        int[][] players = {{A, 762, 0, 1, 1, 2, 3}, {B, 134, 0, 1, 0, 1, 3}, {C, 0, 0, 1, 1, 2, 1},
            {D, 10, 0, 2, 1, 2, 3}, {A, 0, 0, 0, 0, 2, 3}};
        int[][] sessions = {{1, 1, 2, 2, 120, 1270, 284}, {2, 0, 0, 0, 13, 71, 0}, {0, 1, 1, 1, 10, 50, 25}};
        for (int k = -1; k <= 6; k++) {
            for (int w = -2; w <= 9; w++) {
                int n = k;
                int what = w;
                due("5: land " + k + " " + w, Check.answerOf(() -> x.land(n, what)), rowOf(lands, k, w));
                due("6: player " + k + " " + w, Check.answerOf(() -> x.player(n, what)), rowOf(players, k, w));
                due("7: session " + k + " " + w, Check.answerOf(() -> x.session(n, what)), rowOf(sessions, k, w));
            }
        }
        RightsPool y = new RightsPool();
        due("5: none", Check.answerOf(() -> y.land(0, 0)), Check.OUTSIDE);
        due("6: none", Check.answerOf(() -> y.player(0, 99)), Check.OUTSIDE);
        due("7: none", Check.answerOf(() -> y.session(LOW, 0)), Check.OUTSIDE);
        membersAndSeats(x);
        x.claim(U, O);
        x.part(B);
        due("6: sessions by claims", x.player(U, 3), 1);
        due("6: first in none", x.player(U, 4), 0);
        due("6: by parts", x.player(P, 2), 80);
        due("6: paid in all", x.player(P, 1), 842);
        due("5: paid with parts", x.land(B, 5), 200);
        due("7: open", x.session(O, 3), 0);
        due("7: seats", x.session(O, 2), 1);
        due("7: side without seats", x.session(O, 1), 1);
        due("7: kept", x.session(O, 6), 0);
    }

    private static long rowOf(int[][] rows, int k, int w) {
        if (k < 0 || k >= rows.length) {
            return Check.OUTSIDE;
        }
        return w < 0 || w >= rows[k].length ? Check.NO_ELEMENT : rows[k][w];
    }

    private static void membersAndSeats(RightsPool x) {
        due("8: first one", x.of(M, 0, 0), P);
        due("8: first", x.of(M, 0, 1), 0);
        due("8: second one", x.of(M, 1, 0), Q);
        due("8: side", x.of(M, 1, 1), 1);
        due("8: as told", x.of(N, 1, 0), T);
        due("8: not so many", x.of(M, 2, 0), -2);
        due("8: high", x.of(M, HIGH, 1), -2);
        due("8: k below 0", x.of(M, -1, 0), -1);
        due("8: no such session", x.of(3, 0, 0), -1);
        due("8: no such what", x.of(M, 0, 2), -1);
        due("8: NONE first", x.of(M, 9, 2), -1);
        due("9: open", x.seat(M, 1), -2);
        due("9: no such seat", x.seat(M, 2), -1);
        due("9: below", x.seat(M, -1), -1);
        due("9: no such session", x.seat(-1, 0), -1);
        due("9: a session without", x.seat(N, 0), -1);
        due("10: first", x.role(P, M), 0);
        due("10: side", x.role(Q, M), 1);
        due("10: not of it", x.role(U, M), -2);
        due("10: no such player", x.role(5, M), -1);
        due("10: no such session", x.role(P, 3), -1);
        due("53: open", x.openSeats(M), 3);
        due("53: of one", x.openSeats(O), 1);
        due("53: none", x.openSeats(N), 0);
        due("53: no such one", x.openSeats(3), -1);
        due("53: below", x.openSeats(-1), -1);
        due("40: idle", x.idle(), 1 << U);
        x.claim(U, M);
        due("9: whose", x.seat(M, 0), U);
        due("9: the other", x.seat(M, 1), -2);
        due("10: has a seat", x.role(U, M), 2);
        due("53: the other", x.openSeats(M), 2);
        due("59: open seats", x.count(7), 2);
        due("40: nobody idle", x.idle(), 0);
        x.undo();
        RightsPool y = Pools.fresh();
        due("40: of no session", y.idle(), 1 << U);
        y.claim(U, M);
        due("40: by a claim", y.idle(), 0);
        y.giveBack(M, 0);
        due("40: given back, not paid", y.idle(), 1 << U);
        y.claim(U, M);
        y.play(A, M, 10);
        y.giveBack(M, 0);
        due("40: paid", y.idle(), 0);
    }

    private static void whoPaysWhom() {
        RightsPool x = Pools.fresh();
        String[] first = {"1111", "1101", "0000", "1101"};
        String[] side = {"1111", "0000", "0010", "1001"};
        for (int l = 0; l < 4; l++) {
            for (int of = 0; of < 4; of++) {
                due("11: first " + l + of, x.pays(l, of, 0), first[l].charAt(of) - '0');
                due("11: side " + l + of, x.pays(l, of, 1), side[l].charAt(of) - '0');
            }
        }
        due("11: no such land", x.pays(4, A, 0), -1);
        due("11: no such other", x.pays(A, -1, 0), -1);
        due("11: no such role", x.pays(A, A, 2), -1);
        due("11: role below", x.pays(A, A, -1), -1);
        int[] firstBy = {3, 3, 1, 3};
        int[] sideBy = {2, 1, 2, 2};
        int[] answers = {10, 9, 0, 3};
        int[] rings = {11, 11, 4, 11};
        for (int l = 0; l < 4; l++) {
            due("12: first " + l, x.paidBy(l, 0), firstBy[l]);
            due("12: side " + l, x.paidBy(l, 1), sideBy[l]);
            due("51: " + l, x.answers(l), answers[l]);
            due("14: " + l, x.ring(l), rings[l]);
            for (int b = 0; b < 4; b++) {
                due("13: " + l + b, x.answer(l, b), l == b ? 1 : answers[l] >> b & 1);
            }
        }
        due("12: no such land", x.paidBy(4, 0), -1);
        due("12: no such role", x.paidBy(A, 2), -1);
        due("13: no such land", x.answer(4, A), -1);
        due("13: no such other", x.answer(A, LOW), -1);
        due("14: no such land", x.ring(4), -1);
        due("14: below", x.ring(-1), -1);
        due("15: rings", x.rings(), 2);
        due("51: no such land", x.answers(-1), -1);
        due("51: no such other", x.answers(4), -1);
        rings();
        reaching(x);
    }

    private static void rings() {
        RightsPool x = Texts.pool("land x like leads 1; land z like sides 1; land y like both 1; land o own both 1;");
        due("13: leads and sides", x.answer(0, 1), 0);
        due("13: leads and both", x.answer(0, 2), 1);
        due("13: sides and both", x.answer(2, 1), 1);
        due("14: they hang together", x.ring(0), 7);
        due("14: from the other end", x.ring(1), 7);
        due("14: own alone", x.ring(3), 8);
        due("15: two", x.rings(), 2);
        due("51: not by another one", x.answers(0), 4);
        due("20: own", x.terms(2, 2, 3), true);
        due("15: four", x.rings(), 4);
        due("14: alone", x.ring(1), 2);
        due("20: all", x.terms(3, 0, 3), true);
        due("13: one pays alone", x.answer(3, 2), 0);
        due("13: all and like", x.answer(3, 0), 1);
        due("14: by the last one", x.ring(0), 11);
        due("15: two again", x.rings(), 2);
        RightsPool chain = Texts.pool("land a like leads 1; land b like both 1; land c like sides 1; land d all leads 1;");
        due("14: a chain", chain.ring(3), 15);
        due("15: one", chain.rings(), 1);
        // each pays the other another role
        RightsPool cross = Texts.pool("land a all leads 1; land b all sides 1;");
        due("13: some role", cross.answer(0, 1), 1);
    }

    private static void reaching(RightsPool x) {
        int[] reached = {2, 1, 0, 1};
        for (int l = 0; l < 4; l++) {
            due("57: " + l, x.reached(l, M), reached[l]);
        }
        due("57: no such land", x.reached(4, M), -1);
        due("57: no such session", x.reached(A, 3), -1);
        due("57: below", x.reached(A, -1), -1);
        x.claim(R, M);
        due("57: a seat with one", x.reached(A, M), 3);
        due("57: a seat at home", x.reached(C, M), 1);
        due("57: not there", x.reached(D, M), 1);
        x.undo();
        due("36: first as it is", x.pairs(0, A, 0, 3), 7);
        due("36: side as it is", x.pairs(1, A, 0, 3), 4);
        due("36: first", x.pairs(0, C, 1, 3), 12);
        due("36: side", x.pairs(1, C, 1, 3), 7);
        due("36: own", x.pairs(0, A, 2, 3), 2);
        due("36: nothing changed", x.land(C, 0), 2);
        due("36: no such role", x.pairs(2, C, 1, 3), -1);
        due("36: no such land", x.pairs(0, 4, 1, 3), -1);
        due("36: no such term", x.pairs(0, C, 3, 3), -1);
        due("36: term below", x.pairs(0, C, -1, 3), -1);
        due("36: no such roles", x.pairs(0, C, 1, 0), -1);
        due("36: roles beyond", x.pairs(0, C, 1, 4), -1);
    }

    private static void playing() {
        RightsPool x = Pools.fresh();
        due("16: all", x.play(A, M, 100), 734);
        due("16: like leads", x.play(B, M, 10), 120);
        due("16: own sides, first ones alone", x.play(C, N, 10), 0);
        due("16: own sides, none first", x.play(C, O, 10), 0);
        due("16: like both", x.play(D, M, 10), 42);
        due("16: a cent over", x.play(D, N, 3), 10);
        due("16: no such land", x.play(4, M, 1), -1);
        due("16: no such session", x.play(A, 3, 1), -1);
        due("16: no copies", x.play(A, M, 0), -1);
        due("16: too many copies", x.play(A, M, 100000), -1);
        due("16: copies below", x.play(A, M, LOW), -1);
        due("59: what can be undone", x.count(8), 6);
        int[][] kept = {{A, M, 0, 133}, {A, M, 1, 133}, {B, M, 0, 0}, {C, O, 0, 25}, {D, M, 0, 9}, {D, M, 1, 9}};
        for (int[] k : kept) {
            due("26: this year", x.kept(k[0], k[1], k[2], 0), k[3]);
            due("26: of all", x.kept(k[0], k[1], k[2], -1), k[3]);
            due("26: ahead", x.kept(k[0], k[1], k[2], 1), 0);
        }
        due("26: far ahead", x.kept(A, M, 0, HIGH), 0);
        due("26: nine", x.kept(A, M, 0, 9), 0);
        due("26: no such land", x.kept(4, M, 0, 0), -1);
        due("26: no such session", x.kept(A, 3, 0, 0), -1);
        due("26: no such seat", x.kept(A, M, 2, 0), -1);
        due("26: seat below", x.kept(A, M, -1, 0), -1);
        due("26: no seats", x.kept(A, N, 0, -1), -1);
        due("16: the money is all there", x.money(1) + x.money(2) + x.money(3), x.money(0));
        playingLimits();
        playingSeats();
    }

    private static void playingLimits() {
        RightsPool x = Texts.pool("land a all both 999; land b all both 1; player p a; session s p first unknown 1; lead 60;");
        due("16: much", x.play(0, 0, 99999), 59939400);
        due("16: more", x.play(0, 0, 99999), 59939400);
        due("16: still more", x.play(0, 0, 99999), 59939400);
        due("16: beyond", x.play(0, 0, 304), -2);
        due("30: beyond", x.wouldPlay(0, 0, 304, 0), -2);
        due("30: NONE first", x.wouldPlay(0, 0, 304, 3), -1);
        due("16: nothing happened", x.count(8), 3);
        due("16: up to it", x.play(0, 0, 303), 181618);
        due("5: money", x.land(0, 4), 299999700);
        due("16: beyond by a cent", x.play(0, 0, 1), -2);
        due("16: another land", x.play(1, 0, 99999), 59999);
        due("29: whatever it is", x.share(0, 0, 99999, 0), 59939400);
        due("55: whatever it is", x.split(0, 0, 99999, 2), 39959601);
        due("42: whatever it is", x.bestLand(0, 0, 99999, 1), 59939400);
        due("35: whatever it is", x.gain(0, 0, 0, 99999, 0, 2), -59939400);
        RightsPool y = Texts.pool("land a all both 300; player p a; session s p first;");
        for (int k = 0; k < 10; k++) {
            due("16: a tenth", y.play(0, 0, 99999), 29999700);
        }
        due("16: to the very end", y.play(0, 0, 10), 3000);
        due("16: full", y.land(0, 4), 300000000);
        due("16: one more", y.play(0, 0, 1), -2);
        RightsPool z = Texts.pool("land a all both 49; player p a; session s p first;");
        for (int k = 0; k < 61; k++) {
            z.play(0, 0, 99999);
        }
        due("16: a cent beyond", z.play(0, 0, 22510), -2);
        due("30: a cent beyond", z.wouldPlay(0, 0, 22510, 0), -2);
        due("16: not beyond", z.play(0, 0, 22509), 1102941);
    }

    private static void playingSeats() {
        RightsPool x = Texts.pool("land a all both 1; player p a; player q a; player r a;"
            + "session s p side q first r first unknown 2; session n p side; session f p first; lead 50;");
        int[] has = {2, 2, 1, 1, 1};
        for (int k = 0; k < has.length; k++) {
            due("29: share " + k, x.share(0, 0, 7, k), has[k]);
        }
        due("55: first ones, downwards", x.split(0, 0, 7, 0), 3);
        due("55: the others", x.split(0, 0, 7, 1), 4);
        due("55: open seats", x.split(0, 0, 7, 2), 2);
        due("55: none first", x.split(0, 1, 7, 0), 0);
        due("55: all of it", x.split(0, 1, 7, 1), 7);
        due("55: none of the others", x.split(0, 2, 7, 0), 7);
        due("55: nothing", x.split(0, 2, 7, 1), 0);
        due("16: one cent", x.play(0, 0, 1), 1);
        due("25: goes to the first of the others", x.paid(0, 0, 0), 1);
        Texts.tell(x, "land a all both 1; player p a; player q a; session s p side q first; lead 0;");
        due("29: lead 0", x.share(0, 0, 9, 1), 0);
        due("29: the other has all", x.share(0, 0, 9, 0), 9);
        Texts.tell(x, "land a all both 1; player p a; player q a; session s p side q first; lead 100;");
        due("29: lead 100", x.share(0, 0, 9, 1), 9);
        due("29: the other has nothing", x.share(0, 0, 9, 0), 0);
        Texts.tell(x, "land a all leads 1; player p a; session s p side unknown 1;");
        due("16: side is not paid", x.play(0, 0, 10), 0);
        due("5: the seat's goes into the box, too", x.land(0, 3), 10);
        due("20: sides", x.terms(0, 2, 2), true);
        due("16: side is paid", x.play(0, 0, 10), 5);
        due("5: the seat's is kept", x.land(0, 6), 5);
    }

    private static void years() {
        RightsPool x = Pools.played();
        due("28: one year", x.lapses(A, 1), 0);
        due("28: two years", x.lapses(A, 2), 266);
        due("28: nine years", x.lapses(A, 9), 266);
        due("28: nothing there", x.lapses(B, 9), 0);
        due("28: no years", x.lapses(A, 0), -1);
        due("28: ten years", x.lapses(A, 10), -1);
        due("28: no such land", x.lapses(4, 1), -1);
        due("41: two", x.nextLapse(A), 2);
        due("41: nothing is kept", x.nextLapse(B), -2);
        due("41: no such land", x.nextLapse(4), -1);
        due("41: below", x.nextLapse(-1), -1);
        due("17: nothing yet", x.year(), 0);
        due("26: ahead", x.kept(A, M, 0, 1), 133);
        due("26: this one", x.kept(A, M, 0, 0), 0);
        due("26: of all", x.kept(A, M, 0, -1), 133);
        due("41: one", x.nextLapse(A), 1);
        x.play(A, M, 10);
        due("26: both", x.kept(A, M, 1, -1), 146);
        due("28: one year now", x.lapses(A, 1), 266);
        due("28: all", x.lapses(A, 2), 292);
        due("17: lapses", x.year(), 309);
        due("17: the year", x.count(6), 2);
        due("26: the later one stays", x.kept(A, M, 1, 1), 13);
        due("26: the elder one lapsed", x.kept(A, M, 1, -1), 13);
        due("5: into the box", x.land(A, 3), 266);
        due("5: into that land's box", x.land(C, 3), 100);
        due("5: kept", x.land(A, 6), 26);
        due("27: lapsed", x.lapsed(A, M, 0), 133);
        due("27: in another land", x.lapsed(D, M, 1), 9);
        due("27: of another session", x.lapsed(C, O, 0), 25);
        due("27: nothing", x.lapsed(B, M, 0), 0);
        due("27: no such land", x.lapsed(4, M, 0), -1);
        due("27: no such session", x.lapsed(A, 3, 0), -1);
        due("27: no such seat", x.lapsed(A, M, 2), -1);
        due("27: seat below", x.lapsed(A, M, -1), -1);
        due("58: lapsed", x.money(5), 309);
        due("17: the rest", x.year(), 26);
        due("27: more", x.lapsed(A, M, 0), 146);
        due("54: first open seat", x.late(M), 155);
        due("54: another", x.late(O), 25);
        due("54: no seat is open", x.late(N), -3);
        due("54: no such session", x.late(3), -1);
        due("54: below", x.late(-1), -1);
        x.claim(U, M);
        due("54: the next seat", x.late(M), 155);
        keepYears();
    }

    private static void keepYears() {
        for (int keep = 1; keep <= 9; keep++) {
            RightsPool x = Texts.pool("land a all both 1; session s unknown 1; keep " + keep + ";");
            x.play(0, 0, 5);
            due("41: keep " + keep, x.nextLapse(0), keep);
            for (int k = 1; k < keep; k++) {
                due("28: too early", x.lapses(0, keep - k), 0);
                due("28: late enough", x.lapses(0, keep - k + 1), 5);
                due("17: not yet", x.year(), 0);
                due("26: ago " + k, x.kept(0, 0, 0, k), 5);
                due("41: left", x.nextLapse(0), keep - k);
            }
            due("17: now", x.year(), 5);
            due("41: nothing more", x.nextLapse(0), -2);
            due("26: no more", x.kept(0, 0, 0, -1), 0);
            due("27: lapsed", x.lapsed(0, 0, 0), 5);
        }
    }

    private static void claims() {
        RightsPool x = Pools.aged();
        due("31: of a", x.wouldClaim(U, M), 142);
        due("31: of c", x.wouldClaim(R, M), 133);
        due("31: is of it", x.wouldClaim(P, M), -2);
        due("31: is of it ahead of no seat", x.wouldClaim(R, N), -2);
        due("31: no seat", x.wouldClaim(P, N), -3);
        due("31: no such player", x.wouldClaim(5, M), -1);
        due("31: no such session", x.wouldClaim(U, 3), -1);
        due("32: session", x.bestClaim(U, 0), M);
        due("32: how much", x.bestClaim(U, 1), 142);
        due("32: another", x.bestClaim(P, 0), O);
        due("32: for nothing", x.bestClaim(P, 1), 0);
        due("32: of c", x.bestClaim(R, 1), 133);
        due("32: no such player", x.bestClaim(5, 0), -1);
        due("32: no such what", x.bestClaim(U, 2), -1);
        due("33: of several the first", x.claimant(M, 0), T);
        due("33: how much", x.claimant(M, 1), 142);
        due("33: its own land pays", x.claimant(O, 0), R);
        due("33: what is lapsed", x.claimant(O, 1), 25);
        due("33: there is none", x.claimant(N, 0), -2);
        due("33: none to tell", x.claimant(N, 1), -2);
        due("33: no such session", x.claimant(3, 0), -1);
        due("33: no such what", x.claimant(M, -1), -1);
        due("18: is of it", x.claim(Q, M), -2);
        due("18: no seat is open", x.claim(U, N), -3);
        due("18: no such player", x.claim(-1, M), -1);
        due("18: no such session", x.claim(U, 3), -1);
        due("18: none of these happened", x.count(8), 8);
        due("18: late", x.claim(R, M), 133);
        due("18: the seat", x.seat(M, 0), R);
        due("5: out of the box", x.land(A, 3), 133);
        due("5: not out of that one", x.land(D, 3), 39);
        due("27: paid", x.lapsed(A, M, 0), 0);
        due("27: 0 in any case", x.lapsed(D, M, 0), 0);
        due("27: of the other seat", x.lapsed(D, M, 1), 9);
        due("25: weight", x.paid(R, A, 1), 133);
        due("18: has it already", x.claim(R, M), -2);
        due("18: the next seat", x.claim(T, M), 142);
        due("9: the next seat", x.seat(M, 1), T);
        due("18: no more", x.claim(U, M), -3);
        due("32: none for him", x.bestClaim(T, 0), -2);
        due("32: nor how much", x.bestClaim(T, 1), -2);
        earlyClaims();
        seatsGivenBack();
    }

    private static void earlyClaims() {
        RightsPool x = Pools.played();
        due("18: early", x.claim(R, M), 133);
        due("5: kept in a", x.land(A, 6), 133);
        due("5: not paid: into the box", x.land(D, 3), 30);
        due("5: kept in d", x.land(D, 6), 9);
        due("26: nothing more", x.kept(A, M, 0, -1), 0);
        due("26: nor there", x.kept(D, M, 0, 0), 0);
        due("16: a seat with one is side", x.play(A, M, 100), 867);
        due("25: his, too", x.paid(R, A, 0), 266);
        due("16: not paid there", x.play(D, M, 10), 42);
        due("5: box", x.land(D, 3), 49);
        RightsPool both = Pools.played();
        both.year();
        both.play(A, M, 100);
        both.year();
        due("31: kept and lapsed", both.wouldClaim(U, M), 275);
        due("18: kept and lapsed", both.claim(U, M), 275);
        due("5: the other's stays in the box", both.land(A, 3), 133);
        due("5: the other's stays kept", both.land(A, 6), 133);
        due("25: weight", both.paid(U, A, 1), 266);
        due("25: in d", both.paid(U, D, 1), 9);
    }

    private static void seatsGivenBack() {
        RightsPool x = Pools.aged();
        x.claim(R, M);
        x.claim(U, M);
        due("23: open", x.giveBack(O, 0), -2);
        due("23: no such seat", x.giveBack(M, 2), -1);
        due("23: below", x.giveBack(M, -1), -1);
        due("23: no such session", x.giveBack(3, 0), -1);
        due("23: without seats", x.giveBack(N, 0), -1);
        due("23: whose", x.giveBack(M, 0), R);
        due("23: open again", x.seat(M, 0), -2);
        due("23: again", x.giveBack(M, 0), -2);
        due("23: paid stays", x.paid(R, A, 0), 133);
        due("23: nothing kept", x.kept(A, M, 0, -1), 0);
        due("23: nothing lapsed", x.lapsed(A, M, 0), 0);
        due("10: he isn't of it", x.role(R, M), -2);
        due("16: kept again", x.play(A, M, 100), 867);
        due("26: kept again", x.kept(A, M, 0, 0), 133);
        due("18: another one", x.claim(T, M), 133);
        due("23: whose now", x.giveBack(M, 0), T);
        due("23: the other one's", x.giveBack(M, 1), U);
        due("53: all open", x.openSeats(M), 3);
    }

    private static void parting() {
        RightsPool x = Pools.aged();
        x.claim(R, M);
        int[] shares = {92, 21, 20, 0, 0};
        for (int p = 0; p < 5; p++) {
            due("34: " + p, x.wouldPart(A, p), shares[p]);
        }
        due("34: no weight", x.wouldPart(C, P), -3);
        due("34: no such player", x.wouldPart(A, 5), -1);
        due("34: no such land", x.wouldPart(4, P), -1);
        due("34: NONE first", x.wouldPart(C, -1), -1);
        due("58: lapsed", x.money(5), 167);
        due("19: how much", x.part(A), 133);
        due("19: empty", x.part(A), -2);
        due("34: empty", x.wouldPart(A, P), -2);
        due("19: no weight", x.part(C), -3);
        due("19: no such land", x.part(4), -1);
        due("19: below", x.part(LOW), -1);
        for (int p = 0; p < 5; p++) {
            due("25: by parts " + p, x.paid(p, A, 2), shares[p]);
        }
        due("25: in all", x.paid(P, A, 0), 692);
        due("25: no weight by parts", x.paid(P, A, 1), 600);
        due("25: no such what", x.paid(P, A, 3), -1);
        due("25: what below", x.paid(P, A, -1), -1);
        due("25: no such player", x.paid(5, A, 0), -1);
        due("25: no such land", x.paid(P, 4, 0), -1);
        due("25: nor NONE", x.paid(P, -1, 0), -1);
        due("5: the box is empty", x.land(A, 3), 0);
        due("27: lapsed is 0", x.lapsed(A, M, 1), 0);
        due("27: but in another land", x.lapsed(D, M, 1), 9);
        due("58: lapsed then", x.money(5), 34);
        due("31: nothing of what was parted", x.wouldClaim(U, M), 9);
        due("34: of like rests the first", x.wouldPart(D, P), 32);
        due("34: the second", x.wouldPart(D, T), 7);
        due("21: all that can be", x.partAll(), 119);
        due("5: b", x.land(B, 3), 0);
        due("5: c can't be", x.land(C, 3), 100);
        due("5: d", x.land(D, 3), 0);
        due("58: by parts", x.money(4), 252);
        due("21: none can be", x.partAll(), -2);
        due("21: one to undo", x.count(8), 11);
        due("24: as a whole", x.undo(), 10);
        due("5: b again", x.land(B, 3), 80);
        due("5: d again", x.land(D, 3), 39);
        due("58: by parts again", x.money(4), 133);
        due("21: without lands", new RightsPool().partAll(), -2);
        partingMuch();
    }

    private static void partingMuch() {
        RightsPool x = Texts.pool("land a own both 999; land b own both 1; player p a; player q a; player r a; player t b;"
            + "session s p first q first r first; session n t first; session o p first; session u q first;");
        x.play(0, 1, 99999);
        x.play(0, 0, 99999);
        x.play(0, 2, 50000);
        x.play(0, 3, 50000);
        due("5: a great box", x.land(0, 3), 99899001);
        due("34: by great weights", x.wouldPart(0, P), 41624626);
        due("34: the like one, without the cent left over", x.wouldPart(0, Q), 41624625);
        due("34: the least", x.wouldPart(0, R), 16649750);
        due("19: all of it", x.part(0), 99899001);
        due("5: paid", x.land(0, 5), 199799001 + 99899001);
        RightsPool y = Texts.pool("land a own both 1; land b own both 1; player p a; player q a; player r a; player t b;"
            + "session s p first q first r first; session n t first;");
        y.play(0, 0, 3);
        y.play(0, 1, 2);
        due("34: a cent each to the first ones", y.wouldPart(0, P), 1);
        due("34: the second", y.wouldPart(0, Q), 1);
        due("34: none for the third", y.wouldPart(0, R), 0);
        y.part(0);
        y.play(0, 1, 2);
        due("34: parts are no weight", y.wouldPart(0, R), 0);
        due("19: again", y.part(0), 2);
        due("25: two by parts", y.paid(P, 0, 2), 2);
    }

    private static void otherTermsAndHomes() {
        RightsPool x = Pools.fresh();
        due("20: they are so", x.terms(A, 0, 3), false);
        due("20: no such land", x.terms(4, 0, 3), false);
        due("20: no such term", x.terms(A, 3, 3), false);
        due("20: term below", x.terms(A, -1, 3), false);
        due("20: no roles", x.terms(A, 0, 0), false);
        due("20: roles beyond", x.terms(A, 0, 4), false);
        due("20: nothing happened", x.count(8), 0);
        due("20: other roles", x.terms(A, 0, 1), true);
        due("20: other term", x.terms(A, 2, 1), true);
        due("5: term", x.land(A, 0), 2);
        due("5: roles", x.land(A, 1), 1);
        due("11: own alone", x.pays(A, B, 0), 0);
        due("11: like for like", x.pays(B, A, 0), 0);
        due("16: to its own first ones", x.play(A, M, 10), 60);
        due("5: all else", x.land(A, 3), 40);
        due("24: undone", x.undo(), 2);
        due("24: the term", x.undo(), 1);
        due("5: all again", x.land(A, 0), 0);
        due("5: roles stay", x.land(A, 1), 1);
        RightsPool y = Pools.played();
        due("22: of that land", y.move(P, A), false);
        due("22: no such player", y.move(5, A), false);
        due("22: no such land", y.move(P, 4), false);
        due("22: below", y.move(P, -1), false);
        due("22: nothing happened", y.count(8), 6);
        due("22: moves", y.move(P, C), true);
        due("6: his land", y.player(P, 0), C);
        due("5: one less", y.land(A, 7), 1);
        due("5: one more", y.land(C, 7), 2);
        due("6: paid stays", y.player(P, 1), 762);
        due("39: to those of it now", y.across(A, C, false), 600);
        due("43: of it now", y.net(C), 762);
        due("16: as one of c", y.play(D, M, 10), 0);
        due("16: by all", y.play(A, M, 100), 734);
    }

    private static void moneyTold() {
        RightsPool x = Pools.played();
        int[] money = {1391, 906, 309, 176, 0, 0};
        for (int w = 0; w < 6; w++) {
            due("58: " + w, x.money(w), money[w]);
        }
        due("58: no such what", x.money(6), -1);
        due("58: what below", x.money(-1), -1);
        int[] counts = {13, 4, 5, 3, 60, 2, 0, 3, 6, 0};
        for (int w = 0; w < 10; w++) {
            due("59: " + w, x.count(w), counts[w]);
        }
        due("59: no such what", x.count(10), -1);
        due("59: what below", x.count(-1), -1);
        due("37: in all", x.most(-1, 0), P);
        due("37: how much", x.most(-1, 1), 762);
        due("37: in d", x.most(D, 0), P);
        due("37: in d how much", x.most(D, 1), 42);
        due("37: of several the first", x.most(C, 0), P);
        due("37: nothing", x.most(C, 1), 0);
        due("37: no such land", x.most(4, 0), -1);
        due("37: below NONE", x.most(-2, 0), -1);
        due("37: no such what", x.most(A, 2), -1);
        due("37: no players", new RightsPool().most(-1, 1), -2);
        due("37: no players in a land", Texts.pool("land a all both 1;").most(0, 0), -2);
        due("37: NONE first", new RightsPool().most(-1, 2), -1);
        int[] ranked = {P, Q, T, R, U};
        for (int k = 0; k < 5; k++) {
            due("38: " + k, x.ranked(k), ranked[k]);
        }
        due("38: not so many", x.ranked(5), -2);
        due("38: high", x.ranked(HIGH), -2);
        due("38: below", x.ranked(-1), -1);
        due("38: none", new RightsPool().ranked(0), -2);
        due("38: none below", new RightsPool().ranked(LOW), -1);
        across(x);
        statements(x);
        poorest(x);
        due("56: session", x.dearest(0), M);
        due("56: how much", x.dearest(1), 1270);
        due("56: no such what", x.dearest(2), -1);
        due("56: of several the first", Pools.fresh().dearest(0), M);
        due("56: nothing", Pools.fresh().dearest(1), 0);
        due("56: no sessions", new RightsPool().dearest(1), -2);
        due("56: NONE first", new RightsPool().dearest(-1), -1);
        x.play(B, O, 99);
        due("56: another", x.dearest(0), O);
    }

    private static void across(RightsPool x) {
        due("39: to b", x.across(A, B, false), 134);
        due("39: to a", x.across(B, A, false), 120);
        due("39: balance", x.across(A, B, true), 14);
        due("39: the other's", x.across(B, A, true), -14);
        due("39: its own", x.across(A, A, false), 600);
        due("39: its own balance", x.across(A, A, true), 0);
        due("39: no such land", x.across(4, A, false), NO_SUM);
        due("39: no such other", x.across(A, -1, true), NO_SUM);
        int[] net = {28, 14, 0, -42};
        for (int l = 0; l < 4; l++) {
            due("43: " + l, x.net(l), net[l]);
        }
        due("43: no such land", x.net(4), NO_SUM);
        due("43: below", x.net(-1), NO_SUM);
        due("44: greatest", x.extreme(0), A);
        due("44: least", x.extreme(1), D);
        due("44: no such what", x.extreme(2), -1);
        due("44: of several the first", Pools.fresh().extreme(0), A);
        due("44: of several the first one", Pools.fresh().extreme(1), A);
        due("44: no lands", new RightsPool().extreme(1), -2);
        due("44: NONE first", new RightsPool().extreme(-1), -1);
    }

    private static void statements(RightsPool x) {
        int[] lands = {A, B, D};
        int[] sums = {600, 120, 42};
        for (int k = 0; k < 3; k++) {
            due("48: land " + k, x.statement(P, k, 0), lands[k]);
            due("48: how much " + k, x.statement(P, k, 1), sums[k]);
        }
        due("48: not so many", x.statement(P, 3, 0), -2);
        due("48: nothing", x.statement(U, 0, 1), -2);
        due("48: d alone", x.statement(T, 0, 0), D);
        due("48: k below", x.statement(P, -1, 0), -1);
        due("48: no such player", x.statement(5, 0, 0), -1);
        due("48: no such what", x.statement(P, 0, 2), -1);
        due("48: NONE first", x.statement(P, 9, 2), -1);
    }

    private static void poorest(RightsPool x) {
        due("52: of a", x.poorest(A, 0), U);
        due("52: how much", x.poorest(A, 1), 0);
        due("52: of b", x.poorest(B, 1), 134);
        due("52: no such land", x.poorest(4, 0), -1);
        due("52: no such what", x.poorest(A, 2), -1);
        x.move(R, A);
        due("52: of several the first", x.poorest(A, 0), R);
        due("52: it has none", x.poorest(C, 0), -2);
        due("52: none to tell", x.poorest(C, 1), -2);
        due("52: NONE first", x.poorest(C, 2), -1);
        x.undo();
    }

    private static void whatWouldBe() {
        RightsPool x = Pools.fresh();
        int[] shares = {600, 134, 133, 133, -2};
        for (int k = 0; k < shares.length; k++) {
            due("29: " + k, x.share(A, M, 100, k), shares[k]);
        }
        due("29: k below", x.share(A, M, 100, -1), -1);
        due("29: no such land", x.share(4, M, 100, 0), -1);
        due("29: no such session", x.share(A, 3, 100, 0), -1);
        due("29: no copies", x.share(A, M, 0, 0), -1);
        due("29: too many copies", x.share(A, M, 100000, 9), -1);
        int[] split = {600, 400, 266, -1};
        for (int w = 0; w < 4; w++) {
            due("55: " + w, x.split(A, M, 100, w), split[w]);
        }
        due("55: what below", x.split(A, M, 100, -1), -1);
        due("55: no such land", x.split(4, M, 100, 0), -1);
        due("55: no such session", x.split(A, -1, 100, 0), -1);
        due("55: no copies", x.split(A, M, 0, 0), -1);
        due("55: too many copies", x.split(A, M, 100000, 0), -1);
        due("55: boxed seats, too", x.split(B, M, 10, 2), 53);
        int[] would = {42, 18, 10, -1};
        for (int w = 0; w < 4; w++) {
            due("30: " + w, x.wouldPlay(D, M, 10, w), would[w]);
        }
        due("30: what below", x.wouldPlay(D, M, 10, -1), -1);
        due("30: no such land", x.wouldPlay(4, M, 10, 0), -1);
        due("30: no such session", x.wouldPlay(D, 3, 10, 0), -1);
        due("30: no copies", x.wouldPlay(D, M, 0, 0), -1);
        due("30: too many copies", x.wouldPlay(D, M, 100000, 0), -1);
        x.claim(R, M);
        due("55: the open one alone", x.split(A, M, 100, 2), 133);
        due("29: a seat with one", x.share(A, M, 100, 2), 133);
        x.undo();
        due("42: land", x.bestLand(P, M, 10, 0), B);
        due("42: how much", x.bestLand(P, M, 10, 1), 120);
        due("42: not of it", x.bestLand(U, M, 10, 0), A);
        due("42: nothing", x.bestLand(U, M, 10, 1), 0);
        due("42: no such player", x.bestLand(5, M, 10, 0), -1);
        due("42: no such session", x.bestLand(P, 3, 10, 0), -1);
        due("42: no copies", x.bestLand(P, M, 0, 0), -1);
        due("42: too many copies", x.bestLand(P, M, 100000, 0), -1);
        due("42: no such what", x.bestLand(P, M, 10, 2), -1);
        due("42: no lands, nor such ones", new RightsPool().bestLand(0, 0, 1, 0), -1);
        gains(x);
        CHECK.due("30: nothing happened", Pools.state(x), Pools.state(Pools.fresh()));
        due("30: nothing to undo", x.count(8), 0);
    }

    private static void gains(RightsPool x) {
        due("35: to be paid", x.gain(Q, D, M, 10, 0, 3), 10);
        due("35: not to be paid", x.gain(P, D, M, 10, 2, 3), -42);
        due("35: another role", x.gain(P, D, M, 10, 1, 2), -42);
        due("35: the same", x.gain(P, D, M, 10, 1, 3), 0);
        due("35: not of it", x.gain(U, D, M, 10, 0, 3), 0);
        due("35: at home", x.gain(Q, B, M, 10, 2, 2), 27);
        due("35: no such player", x.gain(5, D, M, 10, 0, 3), NO_SUM);
        due("35: no such land", x.gain(P, 4, M, 10, 0, 3), NO_SUM);
        due("35: no such session", x.gain(P, D, 3, 10, 0, 3), NO_SUM);
        due("35: no copies", x.gain(P, D, M, 0, 0, 3), NO_SUM);
        due("35: too many copies", x.gain(P, D, M, 100000, 0, 3), NO_SUM);
        due("35: no such term", x.gain(P, D, M, 10, 3, 3), NO_SUM);
        due("35: no such roles", x.gain(P, D, M, 10, 0, 0), NO_SUM);
    }

    private static void rounds() {
        RightsPool x = Pools.fresh();
        int[][] rounds = {{22200, 22334, 0, 7666}, {1334, 22000, 38000, 0}, {5000, 0, 11167, 3833},
            {27000, 11200, 4434, 5366}};
        for (int l = 0; l < 4; l++) {
            for (int w = 0; w < 4; w++) {
                due("45: " + l + " " + w, x.round(l, w), rounds[l][w]);
            }
        }
        due("45: no such land", x.round(4, 0), -1);
        due("45: no such what", x.round(A, 4), -1);
        due("45: what below", x.round(A, -1), -1);
        due("47: kept", x.unknown(0), 16865);
        due("47: into boxes", x.unknown(1), 15333);
        due("47: no such what", x.unknown(2), -1);
        due("47: what below", x.unknown(-1), -1);
        int[][] best = {{0, 1, 22200}, {0, 2, 4935}, {0, 1, 21000}};
        for (int l = 0; l < 3; l++) {
            for (int w = 0; w < 3; w++) {
                due("46: " + l + " " + w, x.bestTerms(l, w), best[l][w]);
            }
        }
        due("46: both", x.bestTerms(D, 1), 3);
        due("46: both how much", x.bestTerms(D, 2), 27000);
        due("46: no such land", x.bestTerms(4, 0), -1);
        due("46: no such what", x.bestTerms(A, 3), -1);
        due("46: what below", x.bestTerms(A, -1), -1);
        due("49: to a", x.moveGain(Q, A), 934);
        due("49: to c", x.moveGain(Q, C), 667);
        due("49: where he is", x.moveGain(Q, B), 0);
        due("49: below 0", x.moveGain(T, C), -14500);
        due("49: of no session", x.moveGain(U, D), 0);
        due("49: no such player", x.moveGain(5, A), NO_SUM);
        due("49: no such land", x.moveGain(Q, 4), NO_SUM);
        due("50: the first of several", x.bestHome(Q, 0), A);
        due("50: how much", x.bestHome(Q, 1), 2268);
        due("50: of no session", x.bestHome(U, 0), A);
        due("50: nothing", x.bestHome(U, 1), 0);
        due("50: as good as where he is", x.bestHome(T, 0), A);
        due("50: as much", x.bestHome(T, 1), 27000);
        due("50: better elsewhere", x.bestHome(R, 1), 5000 + 10000 + 3500);
        RightsPool y = Texts.pool("land a own both 1; land b own both 2; land c own both 2; player p a; session s p first;");
        due("50: a later one", y.bestHome(P, 0), 1);
        due("50: a later one, how much", y.bestHome(P, 1), 2000);
        due("50: no such player", x.bestHome(5, 0), -1);
        due("50: no such what", x.bestHome(Q, 2), -1);
        CHECK.due("45: nothing happened", Pools.state(x), Pools.state(Pools.fresh()));
        x.claim(R, M);
        due("47: with a claim", x.unknown(0), 1333 + 5000 + 666 + 2500 + 933 + 3500);
        due("45: of c with a claim", x.round(C, 0), 5000 + 1333 + 667);
        x.move(R, D);
        due("45: of d with a move", x.round(D, 0), 27000 + 5000 + 1333 + 10000 + 3500 + 933);
    }
}
