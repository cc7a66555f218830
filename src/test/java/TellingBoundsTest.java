/**
 * The sentences of the document that name a boundary of what is told: empty, full, alike, wrapped
 * round. Promises 1 to 13, 17, 28, 30, 33, 35, 43 to 45; the ranges of their numbers are RangesTest's.
 */
public final class TellingBoundsTest {
    private static final Checks CHECKS = new Checks("bounds of telling");
    private static final long NO_DIFFERENCE = -1000000000000L;

    public static void main(String[] args) {
        noHousesNoRules();
        twelveHouses();
        storesAtFirst();
        fortyNeeds();
        toNotBelowFrom();
        dueFromTo();
        dueGoesRound();
        knownOnceKnocked();
        twelveMakers();
        goodsUnlike();
        onOrNot();
        twentyCables();
        onceEachTwo();
        tiesAtFirst();
        backOrNot();
        until();
        hourDownwards();
        tapeOf400();
        highestByteFirst();
        endOfTheTape();
        sixItems();
        sixEnds();
        oddsAtFirst();
        turnersInPlace();
        imagesOfNothing();
        imagesThatWereNeverMade();
        whatAnImageLeaves();
        the512thCall();
        CHECKS.close();
    }

    private static Talk talk(String about) {
        return new Talk(CHECKS, about);
    }

    /** A street of so many houses along a line, one beside the other. */
    private static Talk houses(String about, int n) {
        Talk talk = talk(about);
        for (int h = 0; h < n; h++) {
            talk.due(h, "house", h, 0, h % 10);
        }
        return talk;
    }

    private static void noHousesNoRules() {
        Talk talk = talk("A new object: No HOUSES, no RULES");
        for (int what = 0; what <= 10; what++) {
            talk.due(what == 8 ? 999 : 0, "count", what);
        }
        talk.due(-1, "of", 0, 0);
        talk.due(-1, "store", 0, 0, 1);
        talk.due(-1, "need", 0, 0, 1, 1, 0, 1, 0);
        talk.due(-1, "maker", 0, 0, 1, 1, 1, 1);
        talk.due(0, "on", 0, 1);
        talk.due(0, "on", 0, 0);
        talk.due(-1, "cable", 0, 1, 1);
        talk.due(-1, "tie", 0, 1, 1);
        talk.due(-1, "knock", 0);
        talk.due(0, "comes", 0, 1);
        talk.due(0, "comes", 0, 0);
        talk.due(-1, "run", 0, 1);
        talk.due(-1, "needs", 0, 0);
        talk.due(-1, "harm", 0);
        talk.due(-1, "gave", 0, 1);
        talk.due(-1, "carried", 0);
        talk.due(0, "ahead", 0, 0);
        talk.due(-1, "total", 0, 0, 0);
        talk.due(-1, "alone", 0, 0, 0, 0);
        talk.due(NO_DIFFERENCE, "lost", 0, 0);
        talk.due(-1, "helps", 0, 0, 0);
        talk.due(0, "missed");
        talk.due(-1, "cook", 0, 0, 1);
        talk.due(-1, "item", 0, 0, 1, 0);
        talk.due(-1, "common", 0, 0, 0, 0);
        talk.due(-1, "should", 0, 0);
        talk.due(0, "reach", 0);
        talk.due(-1, "reach", 1);
        talk.due(-1, "odds", 0, 0);
        talk.due(-1, "doors", 0, 0, -1);
        talk.due(-2, "rows", 1, -1);
        talk.due(NO_DIFFERENCE, "owes", 0, 1);
        talk.due(-2, "debtor");
        talk.due(-1, "noise", 0);
        talk.due(-2, "loud");
        talk.due(-1, "knows", 0, 0);
        talk.due(0, "parts", 0);
        talk.due(-2, "parts", 1);
        talk.due(-1, "back", 0);
        talk.due(0, "end", 0);
        noHousesButRules();
    }

    private static void noHousesButRules() {
        Talk talk = talk("No HOUSES, a RULE");
        talk.due(0, "count", 1);
        talk.rule("give 9;first 3");
        talk.due(0, "total", 0, 60, 0);
        talk.due(0, "lost", 0, 60);
        talk.due(-1, "alone", 0, 60, 0, 0);
        talk.due(0, "ahead", 0, 0);
        talk.due(-2, "helps", 0, 20, 0);
        talk.due(-2, "helps", 0, 20, 1);
        talk.due(0, "common", 0, 99999, 20, 0);
        talk.due(0, "common", 0, 99999, 20, 1);
        talk.due(-2, "should", 0, 0);
        talk.due(1, "ends", 60, 999);
        talk.due(60, "should", 0, 0);
        talk.due(0, "should", 0, 1);
        talk.due(0, "run", 0, 60);
        talk.due(60, "count", 0);
    }

    private static void twelveHouses() {
        Talk talk = houses("NONE: there are 12", 12);
        talk.refused(-1, "house", new int[] {0, 0, 0}, new int[] {99, 99, 9}, new int[] {100, 0, 0});
        talk.due(12, "count", 1);
        talk.due(11, "of", 11, 8);
        talk.due(1, "of", 11, 6);
        talk.due(-1, "of", 12, 8);
    }

    private static void storesAtFirst() {
        Talk talk = houses("a STORE of each GOOD (0 to 99999; 0 at first)", 2);
        for (int good = 0; good < 6; good++) {
            talk.due(0, "of", 1, good);
            talk.due(0, "store", 1, good, 99999);
            talk.due(99999, "of", 1, good);
            talk.due(0, "of", 0, good);
            talk.due(99999, "store", 1, good, 0);
            talk.due(0, "store", 1, good, 0);
        }
    }

    private static void fortyNeeds() {
        Talk talk = houses("NEED: NONE: there are 40", 1);
        for (int n = 0; n < 40; n++) {
            talk.due(n, "need", 0, n % 6, 1 + n, n, 0, 95, n % 2);
        }
        talk.refused(-1, "need", new int[] {0, 0, 1, 0, 0, 0, 0}, new int[] {0, 0, 1, 0, 0, 0, 1});
        talk.due(40, "count", 2);
        talk.due(40, "needs", 39, 2);
        talk.due(0, "needs", 39, 6);
        talk.due(-1, "needs", 40, 2);
        talk.due(20, "knock", 0);
        talk.due(1, "needs", 39, 6);
    }

    private static void toNotBelowFrom() {
        Talk talk = houses("from, to (0 to 95 each, to not below from)", 1);
        talk.due(0, "need", 0, 0, 1, 1, 0, 0, 0);
        talk.due(1, "need", 0, 0, 1, 1, 95, 95, 0);
        talk.due(2, "need", 0, 0, 1, 1, 0, 95, 0);
        talk.refused(-1, "need", new int[] {0, 0, 1, 1, 95, 94, 0}, new int[] {0, 0, 1, 1, 1, 0, 0},
                new int[] {0, 0, 1, 1, 96, 96, 0}, new int[] {0, 0, 1, 1, 96, 97, 0}, new int[] {0, 0, 1, 1, -1, -1, 0});
    }

    private static void dueFromTo() {
        Talk talk = houses("DUE: if QUARTER mod 96 is from to to", 1);
        talk.rule("hold 0");
        talk.ask("need", 0, 4, 1, 1, 5, 9, 0);
        talk.ask("need", 0, 4, 1, 10, 7, 7, 0);
        for (int now = 0; now < 12; now++) {
            boolean first = now >= 5 && now <= 9;
            talk.due(first ? 1 : 0, "needs", 0, 7);
            talk.due(now == 7 ? 1 : 0, "needs", 1, 7);
            talk.due((first ? 1 : 0) + (now == 7 ? 10 : 0), "run", 0, 1);
        }
    }

    private static void dueGoesRound() {
        Talk talk = houses("QUARTER mod 96 goes round", 1);
        talk.rule("hold 0");
        talk.ask("need", 0, 4, 1, 1, 0, 0, 0);
        talk.ask("need", 0, 4, 1, 10, 95, 95, 0);
        talk.ask("need", 0, 4, 1, 100, 0, 95, 0);
        for (int day = 0; day < 3; day++) {
            talk.due(101, "run", 0, 1);
            talk.due(0, "needs", 0, 7);
            talk.due(60 * 100, "run", 0, 60);
            talk.due(34 * 100, "run", 0, 34);
            talk.due(96 * day + 95, "count", 0);
            talk.due(0, "needs", 0, 7);
            talk.due(1, "needs", 1, 7);
            talk.due(1, "needs", 2, 7);
            talk.due(110, "run", 0, 1);
            talk.due(1, "needs", 0, 7);
            talk.due(0, "needs", 1, 7);
        }
    }

    private static void knownOnceKnocked() {
        Talk talk = houses("KNOWN: not hidden, or it was KNOCKED at its HOUSE", 3);
        talk.due(0, "knock", 0);
        talk.ask("need", 0, 0, 1, 1, 0, 95, 0);
        talk.due(0, "knock", 0);
        talk.ask("need", 1, 0, 1, 1, 0, 95, 1);
        talk.ask("need", 1, 0, 1, 1, 9, 9, 1);
        talk.ask("need", 2, 0, 1, 1, 0, 95, 1);
        talk.due(1, "needs", 0, 6);
        talk.due(0, "needs", 1, 6);
        talk.due(2, "knock", 1);
        talk.due(0, "knock", 1);
        talk.due(1, "needs", 1, 6);
        talk.due(1, "needs", 2, 6);
        talk.due(0, "needs", 3, 6);
        talk.refused(-1, "knock", new int[] {-1}, new int[] {3}, new int[] {12});
    }

    private static void twelveMakers() {
        Talk talk = houses("MAKER: NONE: there are 12", 1);
        for (int m = 0; m < 12; m++) {
            talk.due(m, "maker", 0, 4, 0, 5, 1, m);
        }
        talk.refused(-1, "maker", new int[] {0, 0, 1, 1, 1, 1});
        talk.due(12, "count", 3);
        talk.due(1, "on", 11, 1);
        talk.due(11, "noise", 0);
        talk.due(11, "loud");
        talk.due(0, "on", 12, 1);
        talk.due(0, "on", -1, 1);
    }

    private static void goodsUnlike() {
        Talk talk = houses("A MAKER (GOODS unlike)", 1);
        for (int good = 0; good < 6; good++) {
            talk.due(-1, "maker", 0, good, 1, good, 1, 1);
        }
        talk.due(0, "count", 3);
        talk.due(0, "maker", 0, 0, 0, 1, 1, 0);
        talk.due(1, "maker", 0, 5, 999, 4, 999, 99);
    }

    private static void onOrNot() {
        Talk talk = houses("ON or not (not at first); false, and nothing happens: it is so", 1);
        talk.ask("maker", 0, 0, 0, 1, 1, 7);
        talk.due(0, "noise", 0);
        talk.refused(0, "on", new int[] {0, 0}, new int[] {1, 1}, new int[] {-1, 1});
        talk.due(1, "on", 0, 1);
        talk.due(7, "noise", 0);
        talk.refused(0, "on", new int[] {0, 1}, new int[] {1, 0});
        talk.due(1, "on", 0, 0);
        talk.due(0, "noise", 0);
        Talk other = houses("a MAKER where another one was ON in time gone back from", 1);
        other.ask("image", 0);
        other.ask("maker", 0, 0, 0, 1, 1, 7);
        other.ask("on", 0, 1);
        other.ask("back", 0);
        other.due(0, "maker", 0, 0, 0, 1, 1, 7);
        other.due(0, "noise", 0);
        other.due(1, "on", 0, 1);
    }

    private static void twentyCables() {
        Talk talk = houses("CABLE: NONE: there are 20", 12);
        int cables = 0;
        for (int one = 0; one < 2; one++) {
            for (int other = one + 1; other < 12 && cables < 20; other++) {
                talk.due(cables, "cable", one, other, 1);
                cables++;
            }
        }
        talk.refused(-1, "cable", new int[] {1, 11, 1}, new int[] {2, 3, 9999});
        talk.due(20, "count", 4);
        talk.due(0, "carried", 19);
        talk.due(-1, "carried", 20);
    }

    private static void onceEachTwo() {
        Talk talk = houses("CABLES between two HOUSES (once each two); HOUSES unlike", 3);
        talk.due(0, "cable", 0, 1, 1);
        talk.refused(-1, "cable", new int[] {0, 1, 5}, new int[] {1, 0, 5}, new int[] {2, 2, 5}, new int[] {0, 0, 5});
        talk.due(1, "cable", 2, 1, 1);
        talk.due(-1, "cable", 1, 2, 1);
        talk.due(2, "cable", 2, 0, 1);
    }

    private static void tiesAtFirst() {
        Talk talk = houses("TIES of a HOUSE to another one (0 to 9; 0 at first)", 3);
        talk.due(0, "tie", 2, 1, 9);
        talk.due(0, "tie", 1, 2, 0);
        talk.refused(-1, "tie", new int[] {1, 1, 0}, new int[] {0, 0, 9}, new int[] {2, 1, 10}, new int[] {2, 1, -1});
        talk.due(9, "tie", 2, 1, 0);
        talk.due(0, "tie", 2, 1, 1);
    }

    private static void backOrNot() {
        Talk talk = houses("A HOUSE is BACK or not; false, and nothing happens: it is so, or there is none such", 2);
        talk.due(0, "of", 1, 7);
        talk.refused(0, "comes", new int[] {1, 0}, new int[] {2, 1}, new int[] {2, 0}, new int[] {-1, 1});
        talk.due(1, "comes", 1, 1);
        talk.refused(0, "comes", new int[] {1, 1});
        talk.due(1, "of", 1, 7);
        talk.due(0, "of", 0, 7);
        talk.due(1, "comes", 1, 0);
        talk.due(0, "of", 1, 7);
    }

    private static void until() {
        Talk talk = talk("UNTIL (0 if it has passed, 999 if it says nothing; so at first)");
        talk.rule("hold 0");
        talk.due(999, "count", 8);
        talk.due(-1, "say", -1);
        talk.due(-1, "say", 99999);
        talk.due(99999, "count", 8);
        talk.due(99999, "say", 0);
        talk.due(0, "count", 8);
        talk.due(0, "say", 999);
        talk.due(999, "count", 8);
        talk.due(999, "say", 2);
        for (int now = 0; now < 5; now++) {
            talk.due(Math.max(0, 2 - now), "count", 8);
            talk.ask("run", 0, 1);
        }
        talk.refused(-2, "say", new int[] {-2}, new int[] {100000});
        talk.due(2, "say", 4);
        talk.due(0, "count", 8);
        talk.due(4, "say", 5);
        talk.due(0, "count", 8);
        talk.due(5, "say", 6);
        talk.due(1, "count", 8);
        talk.due(6, "say", -1);
        talk.due(999, "count", 8);
        talk.due(-1, "say", 7);
    }

    private static void hourDownwards() {
        Talk talk = talk("HOUR: NOW mod 96, by 4, downwards");
        talk.rule("hold 0");
        int[] now = {0, 3, 4, 7, 8, 92, 95, 96, 99, 100, 191, 192, 9999};
        int[] hour = {0, 0, 1, 1, 2, 23, 23, 0, 0, 1, 23, 0, 3};
        int at = 0;
        for (int i = 0; i < now.length; i++) {
            while (at < now[i]) {
                int n = Math.min(60, now[i] - at);
                talk.due(0, "run", 0, n);
                at += n;
            }
            talk.due(now[i], "count", 0);
            talk.due(hour[i], "count", 9);
        }
    }

    private static void tapeOf400() {
        Talk talk = talk("NONE, and none comes, if it would have more than 400");
        for (int held = 20; held <= 400; held += 20) {
            talk.due(held, "feed", 0x20202020, 0x20202020, 0x20202020, 0x20202020, 0x20202020);
        }
        talk.refused(-1, "feed", new int[] {1, 2, 3, 4, 5});
        talk.due(381, "end", 381);
        talk.refused(-1, "feed", new int[] {1, 2, 3, 4, 5});
        talk.due(380, "end", 380);
        talk.due(400, "feed", 0x20202020, 0x20202020, 0x20202020, 0x20202020, 0x20202041);
        // All 399 blanks are there still, and behind them what came last.
        talk.due(Checks.fault(399, 0), "rule");
        talk.due(0, "count", 10);
    }

    private static void highestByteFirst() {
        Talk talk = talk("of each number the highest first");
        talk.ask("feed", 'g' << 24 | 'i' << 16 | 'v' << 8 | 'e', ' ' << 24 | '7' << 16 | ';' << 8 | 'h',
                'o' << 24 | 'l' << 16 | 'd' << 8 | '4', ';' << 24 | 'g' << 16 | 'i' << 8 | 'v', 'e' << 24 | 0x398081);
        talk.due(18, "end", 18);
        talk.due(0, "rule");
        Talk sign = talk("bytes of a number below 0 are bytes, too");
        for (int k = 0; k < 4; k++) {
            int number = 0x20202020 | 255 << 24 - 8 * k;
            sign.due(20, "feed", 'h' << 24 | 'o' << 16 | 'l' << 8 | 'd', 0x20203720, number, -1, Integer.MIN_VALUE);
            sign.due(Checks.fault(8 + k, 0), "rule");
        }
        Talk digits = houses("digits one behind the other", 1);
        digits.ask("need", 0, 0, 1, 1, 0, 0, 0);
        digits.due(20, "feed", 'f' << 24 | 'i' << 16 | 'r' << 8 | 's', 't' << 24 | '1' << 16 | '2' << 8 | '3',
                '4' << 24 | '5' << 16 | '+' << 8 | '6', '7' << 24 | '8' << 16 | 0x2020, 0x20202020);
        digits.due(0, "rule");
        digits.due(12345 + 678, "ahead", 0, 0);
    }

    private static void endOfTheTape() {
        Talk talk = talk("NONE, and nothing happens, if it has not so many, or n is below 0");
        talk.refused(-1, "end", new int[] {1}, new int[] {-1}, new int[] {400});
        talk.due(0, "end", 0);
        talk.feed(0, "give 7 ; spoil 3");
        talk.refused(-1, "end", new int[] {17}, new int[] {20}, new int[] {401}, new int[] {-1});
        talk.due(16, "end", 16);
        talk.due(7, "end", 7);
        talk.refused(-1, "end", new int[] {8});
        talk.due(0, "rule");
    }

    private static void sixItems() {
        Talk talk = houses("ITEMS, 6 at most", 1);
        for (int i = 1; i <= 6; i++) {
            talk.due(i, "item", 0, 5, 1, 0);
        }
        talk.refused(-1, "item", new int[] {0, 5, 1, 0});
        talk.due(6, "count", 6);
    }

    private static void sixEnds() {
        Talk talk = talk("ENDS, 6 at most");
        for (int i = 1; i <= 6; i++) {
            talk.due(i, "ends", 0, 1);
        }
        talk.refused(-1, "ends", new int[] {0, 1}, new int[] {99999, 999});
        talk.due(6, "count", 7);
    }

    private static void oddsAtFirst() {
        Talk talk = houses("ODDS (0 to 1000; 0 at first)", 2);
        talk.due(0, "odds", 1, 1000);
        talk.refused(-1, "odds", new int[] {1, 1001}, new int[] {1, -1}, new int[] {2, 5});
        talk.due(1000, "odds", 1, 0);
        talk.due(0, "odds", 1, 0);
        talk.due(0, "odds", 0, 0);
    }

    private static void turnersInPlace() {
        Talk talk = talk("A TURNER (0 to 4) is so, in place of what it was");
        talk.due(1, "turner", 4, 20, 20, 999);
        talk.due(0, "rows", 7, -1);
        talk.due(1, "turner", 4, 1, 0, 0);
        talk.due(1, "turner", 0, 1, 0, 0);
        talk.due(0, "rows", 7, -1);
        talk.due(0, "rows", 7, 6);
        talk.due(1, "turner", 0, 1, 0, 3);
        talk.due(0, "rows", 7, -1);
        talk.due(1, "turner", 4, 1, 0, 5);
        talk.due(21, "rows", 7, -1);
        talk.due(4, "rows", 7, 0);
        talk.refused(0, "turner", new int[] {5, 1, 0, 0}, new int[] {-1, 1, 0, 0}, new int[] {4, 0, 0, 0},
                new int[] {4, 21, 0, 0}, new int[] {4, 1, -1, 0}, new int[] {4, 1, 21, 0}, new int[] {4, 1, 0, -1},
                new int[] {4, 1, 0, 1000});
        talk.due(21, "rows", 7, -1);
    }

    private static void imagesOfNothing() {
        Talk talk = talk("(it is made also where nothing was told yet)");
        for (int k = 0; k < 4; k++) {
            talk.due(-1, "back", k);
            talk.due(0, "image", k);
            talk.due(0, "back", k);
        }
        talk.refused(-1, "image", new int[] {4}, new int[] {-1});
        talk.due(0, "house", 1, 1, 1);
        talk.due(0, "back", 3);
        talk.due(0, "count", 1);
    }

    private static void imagesThatWereNeverMade() {
        Talk talk = houses("NONE, and nothing happens, if it was never made, or without it", 2);
        talk.rule("hold 0");
        talk.ask("run", 0, 5);
        talk.ask("image", 2);
        talk.ask("run", 0, 1);
        talk.refused(-1, "back", new int[] {0}, new int[] {1}, new int[] {3}, new int[] {4}, new int[] {-1});
        talk.due(6, "count", 0);
        talk.due(5, "back", 2);
        talk.due(5, "count", 0);
    }

    private static void whatAnImageLeaves() {
        Talk talk = talk("(RULES, TAPE stay)");
        talk.ask("image", 0);
        for (int r = 0; r < 8; r++) {
            talk.due(r, "count", 5);
            talk.rule("first " + r);
        }
        talk.feed(0, "hold");
        talk.due(0, "back", 0);
        talk.due(8, "count", 5);
        talk.due(4, "count", 10);
        talk.due(-1, "rule");
        talk.ask("house", 0, 0, 0);
        talk.ask("need", 0, 0, 1, 1, 0, 0, 0);
        talk.due(7, "ahead", 7, 0);
        talk.due(0, "end", 0);
        talk.ask("image", 1);
        talk.feed(0, "spoil 1");
        talk.due(0, "back", 1);
        talk.due(7, "count", 10);
    }

    private static void the512thCall() {
        Talk talk = houses("at most 512 calls", 2);
        talk.rule("give 1");
        talk.ask("tie", 0, 1, 1);
        talk.ask("store", 0, 4, 99999);
        talk.ask("need", 1, 4, 2, 3, 0, 95, 0);
        int quarters = 0;
        while (talk.callsLeft() > 1) {
            talk.due(3 * 15, "run", 0, 15);
            quarters += 15;
        }
        talk.due(quarters, "gave", 0, 1);
        CHECKS.due("calls left", talk.callsLeft(), 0);
    }
}
