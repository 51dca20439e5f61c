/** The boundaries that the terms name: who is paid, how money is parted, years, claims, boxes, rings, what is undone. */
public final class TermsBoundsTest {
    private static final Sentences DOC = new Sentences("TermsBoundsTest", "2", "3", "4");
    private static final String PAYING = "2";
    private static final String ROUNDS = "3";
    private static final String UNDOING = "4";

    private static final int A = Pools.A;
    private static final int B = Pools.B;
    private static final int C = Pools.C;
    private static final int D = Pools.D;
    private static final int P = Pools.P;
    private static final int R = Pools.R;
    private static final int T = Pools.T;
    private static final int U = Pools.U;
    private static final int M = Pools.M;
    private static final int N = Pools.N;
    private static final int O = Pools.O;

    public static void main(String[] args) {
        payingRoles();
        partingPlays();
        passingYears();
        claiming();
        partingBoxes();
        givingBack();
        rings();
        undoing();
        asking();
        answersInOrder();
        DOC.end();
    }

    private static void due(String what, long got, long want) {
        DOC.due(what, got, want);
    }

    private static void payingRoles() {
        DOC.says(PAYING, "if it is among its own ROLES and: that LAND is itself", () -> {
            for (int term = 0; term <= 2; term++) {
                RightsPool x = Pools.fresh();
                x.terms(C, term, 1);
                due("first at home, term " + term, x.pays(C, C, 0), 1);
                due("side, not among them, term " + term, x.pays(C, C, 1), 0);
                due("side to another one, term " + term, x.pays(C, A, 1), 0);
            }
        });
        DOC.says(PAYING, "its TERM is like, and that LAND's TERM isn't own, and the role is among that LAND's ROLES, too", () -> {
            RightsPool x = Texts.pool("land a like both 1; land b all both 1; land c like leads 1; land d own both 1;");
            due("all", x.pays(0, 1, 1), 1);
            due("like, the role", x.pays(0, 2, 0), 1);
            due("like, not the role", x.pays(0, 2, 1), 0);
            due("own", x.pays(0, 3, 0), 0);
            due("own, side", x.pays(0, 3, 1), 0);
        });
        DOC.says(PAYING, "(TERM own: to its own PLAYERS alone.)", () -> {
            RightsPool x = Texts.pool("land a own both 1; land b all both 1; land c like both 1;");
            due("itself", x.pays(0, 0, 0), 1);
            due("to all", x.pays(0, 1, 0), 0);
            due("to like", x.pays(0, 2, 1), 0);
            due("all to own", x.pays(1, 0, 1), 1);
        });
        DOC.says(PAYING, "SEATS of a SESSION: those of UNKNOWN ones, numbered from 0 on; a SEAT is OPEN, till a CLAIM gives it"
            + " to a PLAYER", () -> {
                RightsPool x = Texts.pool("land a all both 1; player p a; session s unknown 5;");
                due("the first", x.seat(0, 0), -2);
                due("the last", x.seat(0, 4), -2);
                due("no more", x.seat(0, 5), -1);
                x.claim(0, 0);
                due("claimed", x.seat(0, 0), 0);
                due("the next", x.seat(0, 1), -2);
            });
    }

    private static void partingPlays() {
        DOC.says(PAYING, "those who are first together have lead hundredths of it, downwards, the others (side, and SEATS) what"
            + " is left", () -> {
                int[][] rows = {{0, 1, 0}, {0, 99999, 0}, {1, 99, 0}, {1, 100, 1}, {60, 1, 0}, {60, 7, 4}, {99, 1, 0}, {99, 101, 99},
                    {100, 1, 1}, {100, 99999, 99999}};
                for (int[] row : rows) {
                    RightsPool x = Texts.pool("land a all both 1; player p a; session s p first unknown 2; lead " + row[0] + ";");
                    due("first, lead " + row[0] + " of " + row[1], x.split(0, 0, row[1], 0), row[2]);
                    due("others, lead " + row[0] + " of " + row[1], x.split(0, 0, row[1], 1), row[1] - row[2]);
                }
                // lead times money is beyond an int here
                RightsPool much = Texts.pool("land a all both 999; player p a; session s p first unknown 1; lead 99;");
                due("much", much.split(0, 0, 99999, 0), 98900010);
                due("much is left", much.split(0, 0, 99999, 1), 998991);
            });
        DOC.says(PAYING, "all of it, if there are none of the others (of those who are first)", () -> {
            for (int lead : new int[] {0, 60, 100}) {
                RightsPool x = Texts.pool("land a all both 1; player p a; player q a; session s p first q first; session u p side;"
                    + "session v unknown 2; lead " + lead + ";");
                due("first ones alone, lead " + lead, x.split(0, 0, 9, 0), 9);
                due("nothing for others", x.split(0, 0, 9, 1), 0);
                due("side alone, lead " + lead, x.split(0, 1, 9, 1), 9);
                due("nothing for first ones", x.split(0, 1, 9, 0), 0);
                due("seats alone, lead " + lead, x.split(0, 2, 9, 1), 9);
            }
        });
        DOC.says(PAYING, "In each of both parts each one has as much, downwards; a cent more have so many as cents are left over, the"
            + " first ones as they are told (SEATS behind PLAYERS, by numbers)", () -> {
                RightsPool x = Texts.pool("land a all both 1; player p a; player q a; player r a; player t a;"
                    + "session s p side q first r first t side unknown 3; lead 50;");
                int[][] rows = {{1, 1, 0, 0, 0, 0, 0, 0}, {2, 1, 1, 0, 0, 0, 0, 0}, {5, 1, 1, 1, 1, 1, 0, 0},
                    {9, 1, 2, 2, 1, 1, 1, 1}, {10, 1, 3, 2, 1, 1, 1, 1}, {11, 2, 3, 2, 1, 1, 1, 1}, {19, 2, 5, 4, 2, 2, 2, 2}};
                for (int[] row : rows) {
                    for (int k = 0; k < 7; k++) {
                        due("of " + row[0] + ", " + k, x.share(0, 0, row[0], k), row[k + 1]);
                    }
                }
            });
        DOC.says(PAYING, "of an OPEN SEAT it is KEPT (by LAND, SESSION, SEAT, YEAR), if side is among the LAND's ROLES, else it"
            + " goes into the BOX", () -> {
                for (int term = 0; term <= 2; term++) {
                    RightsPool x = Texts.pool("land a all both 1; session s unknown 1;");
                    x.terms(0, term, 2);
                    x.play(0, 0, 5);
                    due("side is among them", x.kept(0, 0, 0, 0), 5);
                    x.terms(0, term, 1);
                    x.play(0, 0, 7);
                    due("kept stays", x.land(0, 6), 5);
                    due("side is not", x.land(0, 3), 7);
                }
            });
    }

    private static void passingYears() {
        DOC.says(PAYING, "The YEAR is 0 at first", () -> {
            due("of a new object", new RightsPool().count(6), 0);
            RightsPool x = Pools.aged();
            due("later", x.count(6), 2);
            Texts.tell(x, Pools.TEXT);
            due("at first again", x.count(6), 0);
        });
        DOC.says(PAYING, "what was KEPT keep YEARS ago or earlier LAPSES: it goes into the BOX of its LAND", () -> {
            for (int keep = 1; keep <= 9; keep++) {
                RightsPool x = Texts.pool("land a all both 1; land b all both 1; session s unknown 1; keep " + keep + ";");
                x.play(1, 0, 5);
                for (int k = 1; k < keep; k++) {
                    due("keep " + keep + ", year " + k, x.year(), 0);
                    x.play(1, 0, 100 * k);
                }
                due("keep " + keep + ", now", x.year(), 5);
                due("into its box", x.land(1, 3), 5);
                due("not into another one", x.land(0, 3), 0);
                due("the year behind", x.year(), keep == 1 ? 0 : 100);
            }
        });
        DOC.says(PAYING, "LAPSED of a SEAT in a LAND: how much of it LAPSED since that BOX was PARTED last", () -> {
            RightsPool x = Texts.pool("land a all both 1; land b all both 1; player p a; session s p first unknown 1; keep 1; lead 50;");
            x.play(0, 0, 10);
            x.year();
            x.play(0, 0, 20);
            x.play(1, 0, 6);
            x.year();
            due("in two years", x.lapsed(0, 0, 0), 15);
            x.part(0);
            due("parted", x.lapsed(0, 0, 0), 0);
            due("but not there", x.lapsed(1, 0, 0), 3);
            x.play(0, 0, 8);
            x.year();
            due("since then", x.lapsed(0, 0, 0), 4);
        });
    }

    private static void claiming() {
        DOC.says(PAYING, "a PLAYER who isn't of a SESSION has its first OPEN SEAT from then on", () -> {
            RightsPool x = Texts.pool("land a all both 1; player p a; player q a; player r a; player t a; session s unknown 3;");
            for (int p = 0; p < 3; p++) {
                x.claim(p, 0);
                due("seat " + p, x.seat(0, p), p);
            }
            due("no seat for the fourth", x.claim(3, 0), -3);
            x.giveBack(0, 1);
            due("the one given back", x.claim(3, 0), 0);
            due("is his", x.seat(0, 1), 3);
            due("he is of it", x.claim(3, 0), -2);
        });
        DOC.says(PAYING, "all that is KEPT of that SEAT is PAID to him, and what is LAPSED of it, too, out of the BOX", () -> {
            RightsPool x = Texts.pool("land a all both 1; player p a; session s unknown 2; session u p side; keep 2;");
            x.play(0, 0, 20);
            x.year();
            x.play(0, 0, 200);
            x.year();
            x.play(0, 0, 2000);
            x.play(0, 1, 1);
            due("of all years", x.claim(0, 0), 1110);
            due("out of the box", x.land(0, 3), 10);
            due("the other's stays kept", x.land(0, 6), 1100);
            due("the other's stays lapsed", x.lapsed(0, 0, 1), 10);
            due("nothing is kept", x.kept(0, 0, 0, -1), 0);
            due("a weight", x.paid(0, 0, 1), 1111);
            RightsPool old = Texts.pool("land a all both 1; player p a; session s unknown 1; keep 9;");
            for (int k = 0; k < 10; k++) {
                old.play(0, 0, 1 << k);
                due("lapses", old.year(), k < 8 ? 0 : 1 << k - 8);
            }
            due("of nine years and two", old.claim(0, 0), 1023);
            due("nothing is kept of any", old.kept(0, 0, 0, -1), 0);
            due("nor in the land", old.land(0, 6), 0);
            due("the box is empty", old.land(0, 3), 0);
            for (int k = 0; k < 9; k++) {
                due("nothing lapses later", old.year(), 0);
            }
        });
        DOC.says(PAYING, "if it PAYS side to PLAYERS of his LAND", () -> {
            // a pays first alone to him, b side alone, c none, d both
            RightsPool x = Texts.pool("land a all both 1; land b all sides 1; land c own both 1; land d all both 1; player p d;"
                + "session s unknown 1;");
            for (int l = 0; l < 4; l++) {
                x.play(l, 0, 1 << l);
            }
            x.terms(0, 0, 1);
            due("would bring", x.wouldClaim(0, 0), 10);
            due("brings", x.claim(0, 0), 10);
            int[] boxes = {1, 0, 4, 0};
            for (int l = 0; l < 4; l++) {
                due("box " + l, x.land(l, 3), boxes[l]);
                due("weight " + l, x.paid(0, l, 1), (1 << l) - boxes[l]);
            }
        });
        DOC.says(PAYING, "else all that is KEPT goes into the BOX (LAPSED: 0 then, in any case)", () -> {
            RightsPool x = Texts.pool("land a own both 1; land b own both 1; player p b; session s unknown 1; keep 1;");
            x.play(0, 0, 20);
            x.year();
            x.play(0, 0, 3);
            due("nothing for him", x.claim(0, 0), 0);
            due("all in the box", x.land(0, 3), 23);
            due("nothing is kept", x.kept(0, 0, 0, -1), 0);
            due("nothing is lapsed", x.lapsed(0, 0, 0), 0);
            x.move(0, 0);
            x.giveBack(0, 0);
            due("nor later", x.claim(0, 0), 0);
        });
    }

    /** Each of p, q, r alone in a session: the copies are his weight; those of t go into the box. */
    private static RightsPool weights(int rate, int... copies) {
        RightsPool x = Texts.pool("land a own both " + rate + "; land b own both 1; player p a; player q a; player r a; player t b;"
            + "session s p first; session u q first; session v r first; session w t first;");
        for (int s = 0; s < 4; s++) {
            if (copies[s] > 0) {
                x.play(0, s, copies[s]);
            }
        }
        return x;
    }

    private static void dueShares(RightsPool x, int... cents) {
        for (int p = 0; p < cents.length; p++) {
            due("would be, player " + p, x.wouldPart(0, p), cents[p]);
        }
        x.part(0);
        for (int p = 0; p < cents.length; p++) {
            due("parted, player " + p, x.paid(p, 0, 2), cents[p]);
        }
    }

    private static void partingBoxes() {
        DOC.says(PAYING, "each has as many cents as BOX times WEIGHT by all WEIGHTS, downwards", () -> {
            dueShares(weights(1, 1, 1, 2, 8), 2, 2, 4, 0);
            dueShares(weights(1, 7, 0, 0, 5), 5, 0, 0, 0);
            // these products are beyond what an int and a double hold
            dueShares(weights(999, 99999, 99998, 0, 99999), 49949750, 49949251, 0, 0);
        });
        DOC.says(PAYING, "a cent more have so many as cents are left over, the greatest rests first, of like ones by numbers", () -> {
            dueShares(weights(1, 1, 1, 1, 1), 1, 0, 0, 0);
            dueShares(weights(1, 1, 1, 1, 2), 1, 1, 0, 0);
            dueShares(weights(1, 1, 1, 1, 5), 2, 2, 1, 0);
            dueShares(weights(1, 2, 1, 0, 2), 1, 1, 0, 0);
            dueShares(weights(1, 1, 2, 3, 1), 0, 0, 1, 0);
            dueShares(weights(1, 3, 2, 2, 1), 1, 0, 0, 0);
            dueShares(weights(1, 2, 3, 3, 1), 0, 1, 0, 0);
        });
        DOC.says(PAYING, "It is PAID (and no WEIGHT). LAPSED in that LAND is 0 then", () -> {
            RightsPool x = Pools.aged();
            x.part(A);
            due("weight", x.paid(P, A, 1), 600);
            due("in all", x.paid(P, A, 0), 817);
            due("seat 0", x.lapsed(A, M, 0), 0);
            due("seat 1", x.lapsed(A, M, 1), 0);
            due("another land", x.lapsed(D, M, 1), 9);
            x.partAll();
            due("that land, too", x.lapsed(D, M, 1), 0);
            due("one that can't be parted", x.lapsed(C, O, 0), 25);
            RightsPool twice = weights(1, 1, 1, 0, 3);
            twice.part(0);
            twice.play(0, 3, 3);
            twice.part(0);
            due("parted twice", twice.paid(P, 0, 2), 4);
            due("the other's, without the cents", twice.paid(1, 0, 2), 2);
        });
    }

    private static void givingBack() {
        DOC.says(PAYING, "(what was PAID stays so; of it nothing is KEPT, LAPSED)", () -> {
            RightsPool x = Pools.aged();
            x.claim(R, M);
            x.play(A, M, 100);
            x.giveBack(M, 0);
            due("paid", x.paid(R, A, 0), 266);
            due("kept", x.kept(A, M, 0, -1), 0);
            due("lapsed", x.lapsed(A, M, 0), 0);
            due("open", x.seat(M, 0), -2);
            x.play(A, M, 100);
            due("kept from then on", x.kept(A, M, 0, -1), 133);
        });
    }

    private static void rings() {
        DOC.says(ROUNDS, "RING: LANDS that hang together by that (each with itself)", () -> {
            RightsPool x = Texts.pool("land a own both 1; land b own both 1; land c like leads 1; land d like sides 1;"
                + "land e like both 1; land f own leads 1;");
            int[] rings = {1, 2, 28, 28, 28, 32};
            for (int l = 0; l < 6; l++) {
                due("ring " + l, x.ring(l), rings[l]);
            }
            due("rings", x.rings(), 4);
            // hanging together in a row: each answers the next alone
            RightsPool row = Texts.pool("land a like leads 1; land b like both 1; land c like sides 1; land d all sides 1;");
            due("not at once", row.answer(0, 2), 0);
            due("by a third one", row.ring(0), 15);
        });
    }

    /** Of each sort that can be undone, one by number. */
    private static void deed(RightsPool x, int k) {
        switch (k) {
            case 0 -> x.play(A, M, 100);
            case 1 -> x.play(D, O, 7);
            case 2 -> x.year();
            case 3 -> x.play(C, M, 9);
            case 4 -> x.claim(R, M);
            case 5 -> x.year();
            case 6 -> x.part(A);
            case 7 -> x.terms(D, 2, 1);
            case 8 -> x.move(P, B);
            case 9 -> x.giveBack(M, 0);
            case 10 -> x.year();
            case 11 -> x.play(B, M, 3);
            case 12 -> x.partAll();
            default -> x.play(A, M, 1);
        }
    }

    private static RightsPool deeds(int many) {
        RightsPool x = Pools.fresh();
        for (int k = 0; k < many; k++) {
            deed(x, k);
        }
        return x;
    }

    /** All that stands there but how much can be undone. */
    private static String withoutUndone(RightsPool x) {
        String state = Pools.state(x);
        return state.replaceFirst("^counts( \\S+){9}", "counts");
    }

    private static void undoing() {
        DOC.says(UNDOING, "PLAYS, YEARS, CLAIMS, PARTS, TERMS, MOVES told by call, SEATS GIVEN BACK can be undone, the latest first",
            () -> {
                for (int many = 1; many <= 14; many++) {
                    RightsPool x = deeds(many);
                    due("more, after " + many, x.undo(), Math.min(many, 12) - 1);
                    DOC.due("as it was after " + (many - 1), withoutUndone(x), withoutUndone(deeds(many - 1)));
                }
            });
        DOC.says(UNDOING, "12 at most (the eldest are forgotten)", () -> {
            RightsPool twelve = deeds(12);
            due("twelve", twelve.count(8), 12);
            RightsPool more = deeds(14);
            due("twelve of fourteen", more.count(8), 12);
            for (int k = 11; k >= 0; k--) {
                due("of twelve", twelve.undo(), k);
                due("of fourteen", more.undo(), k);
            }
            due("none of twelve", twelve.undo(), -1);
            due("none of fourteen", more.undo(), -1);
            DOC.due("all undone", Pools.state(twelve), Pools.state(Pools.fresh()));
            DOC.due("two stay", withoutUndone(more), withoutUndone(deeds(2)));
            deed(more, 2);
            due("one again", more.count(8), 1);
            due("undone", more.undo(), 0);
        });
    }

    private static void asking() {
        DOC.says(UNDOING, "What is asked changes nothing", () -> {
            RightsPool x = Pools.claimed();
            x.giveBack(M, 1);
            x.play(A, M, 55);
            RightsPool y = Pools.claimed();
            y.giveBack(M, 1);
            y.play(A, M, 55);
            for (int k = 0; k < 3; k++) {
                askOfThings(x, k);
                askWhatWouldBe(x, k);
            }
            DOC.due("state", Pools.state(x), Pools.state(y));
        });
    }

    private static void askOfThings(RightsPool x, int k) {
        x.role(k, k);
        x.pays(k, 1, 0);
        x.paidBy(k, 1);
        x.answer(k, 0);
        x.ring(k);
        x.rings();
        x.lapses(k, 9);
        x.most(k - 1, 0);
        x.ranked(k);
        x.across(k, 1, true);
        x.idle();
        x.nextLapse(k);
        x.net(k);
        x.extreme(k);
        x.statement(k, 0, 1);
        x.answers(k);
        x.poorest(k, 0);
        x.openSeats(k);
        x.late(k);
        x.dearest(k);
        x.reached(k, 0);
        x.fault(k);
    }

    private static void askWhatWouldBe(RightsPool x, int k) {
        x.share(k, 0, 77, 1);
        x.wouldPlay(k, 0, 77, k);
        x.wouldClaim(T, k);
        x.bestClaim(T, 1);
        x.claimant(0, 1);
        x.wouldPart(k, 0);
        x.gain(0, k, 0, 77, 2, 2);
        x.pairs(0, k, 2, 2);
        x.bestLand(0, 0, 77, 1);
        x.round(k, k);
        x.bestTerms(k, 2);
        x.unknown(k);
        x.moveGain(k, 3);
        x.bestHome(k, 1);
        x.split(k, 0, 77, 2);
    }

    private static void answersInOrder() {
        DOC.says(UNDOING, "Of several answers that hold NONE goes first, then -2, -3 and so on", () -> {
            RightsPool x = Pools.fresh();
            RightsPool none = new RightsPool();
            due("of: not so many, no such what", x.of(M, 9, 2), -1);
            due("share: not so many, no copies", x.share(A, M, 0, 9), -1);
            due("statement: not so many, no such what", x.statement(P, 9, 2), -1);
            due("wouldPart: empty, no such player", x.wouldPart(A, 5), -1);
            due("bestClaim: none, no such what", x.bestClaim(5, 2), -1);
            due("claimant: none, no such what", x.claimant(N, 2), -1);
            due("most: no players, no such what", none.most(-1, 2), -1);
            due("most: no players, no such land", none.most(0, 0), -1);
            due("ranked: not so many, below 0", none.ranked(-1), -1);
            due("extreme: no lands, no such what", none.extreme(2), -1);
            due("dearest: no sessions, no such what", none.dearest(2), -1);
            due("bestLand: no lands, no such ones", none.bestLand(0, 0, 1, 0), -1);
            due("claim: of it, no seat is open", x.claim(R, N), -2);
            due("wouldClaim: of it, no seat is open", x.wouldClaim(R, N), -2);
            due("part: empty, no weight", x.part(A), -2);
            due("wouldPart: empty, no weight", x.wouldPart(A, P), -2);
            due("late: no seat is open, no such one", x.late(3), -1);
            x.move(R, A);
            due("poorest: none, no such what", x.poorest(C, 2), -1);
            due("poorest: none", x.poorest(C, 0), -2);
            RightsPool full = Texts.pool("land a all both 999; session s unknown 1;");
            for (int k = 0; k < 3; k++) {
                full.play(0, 0, 99999);
            }
            due("wouldPlay: beyond, no such what", full.wouldPlay(0, 0, 99999, 3), -1);
            due("play: beyond, no such copies", full.play(0, 0, 100000), -1);
        });
        DOC.says(UNDOING, "IndexOutOfBoundsException ahead of NoSuchElementException", () -> {
            RightsPool x = Pools.fresh();
            for (int what : new int[] {8, -1, Pools.LOW, Pools.HIGH}) {
                due("land", Check.answerOf(() -> x.land(4, what)), Check.OUTSIDE);
                due("player", Check.answerOf(() -> x.player(5, what)), Check.OUTSIDE);
                due("session", Check.answerOf(() -> x.session(3, what)), Check.OUTSIDE);
                due("no land", Check.answerOf(() -> new RightsPool().land(0, what)), Check.OUTSIDE);
                due("no player", Check.answerOf(() -> new RightsPool().player(0, what)), Check.OUTSIDE);
                due("no session", Check.answerOf(() -> new RightsPool().session(0, what)), Check.OUTSIDE);
            }
        });
    }
}
