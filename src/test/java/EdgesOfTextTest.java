/** Promises 1 to 4 and 23 at their edges: a new object, type, clear, children, count. */
public final class EdgesOfTextTest {
    private static final String ONE = "child 1 2 9;";
    private static final String SIX = "child 1 2 9;child 1 2 9;child 1 2 9;child 1 2 9;child 1 2 9;child 1 2 9;";
    private static final int MIN = Integer.MIN_VALUE;
    private static final int MAX = Integer.MAX_VALUE;

    public static void main(String[] args) {
        Edges edges = new Edges("EdgesOfTextTest");
        newObjects(edges);
        typing(edges);
        clearing(edges);
        bounds(edges);
        tokens(edges);
        faults(edges);
        readingAnew(edges);
        counting(edges);
        edges.finish(1, 2, 3, 4, 23);
    }

    private static void newObjects(Edges edges) {
        edges.of(1, "no CHILDREN", EdgesOfTextTest::noChildren);
        edges.of(1, "As told: STREAK 0, nothing to be UNDONE", EdgesOfTextTest::noOrders);
        edges.of(1, "As told: IMAGES: none was kept", EdgesOfTextTest::noImages);
        edges.of(1, "THE LOT (1 at first)", EdgesOfTextTest::lotAtFirst);
        edges.of(1, "THE TRACE, 0 at first", EdgesOfTextTest::traceAtFirst);
        edges.of(1, "As told: THE TEXT is empty", EdgesOfTextTest::noText);
        edges.of(1, "As told: also when other objects have been used", EdgesOfTextTest::newAmongUsed);
        edges.of(1, "An object is used for at most 512 calls", EdgesOfTextTest::calls512);
        edges.of(1, "The constants", EdgesOfTextTest::constants);
    }

    private static void typing(Edges edges) {
        edges.of(2, "n (1 .. 8)", EdgesOfTextTest::typeTakes1To8);
        edges.of(2, "n (1 .. 8): BAD", EdgesOfTextTest::typeRefusesOthers);
        edges.of(2, "The lowest n bytes of v", EdgesOfTextTest::lowestBytes);
        edges.of(2, "the highest of them first", EdgesOfTextTest::highestFirst);
        edges.of(2, "bytes: 0 .. 255", EdgesOfTextTest::bytesAbove127);
        edges.of(2, "how many it has", EdgesOfTextTest::howManyItHas);
        edges.of(2, "200 bytes at most: the 200th is taken", EdgesOfTextTest::the200th);
        edges.of(2, "200 bytes at most: FULL", EdgesOfTextTest::the201st);
        edges.of(2, "the first of these: BAD, FULL", EdgesOfTextTest::badAheadOfFull);
        edges.of(2, "FULL, until it is emptied", EdgesOfTextTest::roomAgain);
    }

    private static void clearing(Edges edges) {
        edges.of(3, "THE TEXT is empty: how many bytes it had: 0", EdgesOfTextTest::clearNothing);
        edges.of(3, "THE TEXT is empty: how many bytes it had: 200", EdgesOfTextTest::clear200);
        edges.of(3, "THE TEXT is empty: nothing else changes", EdgesOfTextTest::clearTheTextAlone);
    }

    private static void bounds(Edges edges) {
        edges.of(4, "6 at most", EdgesOfTextTest::sixChildren);
        edges.of(4, "a seventh child", EdgesOfTextTest::seventhChild);
        edges.of(4, "SLIP (0 .. 9)", EdgesOfTextTest::slips);
        edges.of(4, "LATE (0 .. 9)", EdgesOfTextTest::lates);
        edges.of(4, "COPIES (a child told ahead; 9: none)", EdgesOfTextTest::copies);
        edges.of(4, "LITTLE or not (not at first)", EdgesOfTextTest::notLittleAtFirst);
        edges.of(4, "little K (a child that was told", EdgesOfTextTest::littleWhoWasTold);
        edges.of(4, "a K that was not told", EdgesOfTextTest::littleWhoWasNotTold);
        edges.of(4, "told again: as it is", EdgesOfTextTest::littleAgain);
        edges.of(4, "ITEMS (none, too): an empty text", EdgesOfTextTest::noItems);
        edges.of(4, "ITEMS (none, too): 200 blanks", EdgesOfTextTest::blanksAlone);
        edges.of(4, "how many ITEMS: as many as 200 bytes hold", EdgesOfTextTest::mostItems);
    }

    private static void tokens(Edges edges) {
        edges.of(4, "blanks (32), any number, ahead of, between, behind TOKENS", EdgesOfTextTest::anyNumberOfBlanks);
        edges.of(4, "blanks (32): no other byte is one", EdgesOfTextTest::noOtherBlanks);
        edges.of(4, "needed only between two rows of letters", EdgesOfTextTest::blanksBetweenWords);
        edges.of(4, "needed only between two NUMBERS", EdgesOfTextTest::blanksBetweenNumbers);
        edges.of(4, "each ended by ;", EdgesOfTextTest::endedBySemicolon);
        edges.of(4, "words of letters a .. z", EdgesOfTextTest::lettersAToZ);
        edges.of(4, "NUMBERS: of figures 0 .. 9", EdgesOfTextTest::figures0To9);
    }

    private static void faults(Edges edges) {
        edges.of(4, "the first byte of the first TOKEN that can't stand there", EdgesOfTextTest::firstThatCannotStand);
        edges.of(4, "a TOKEN that can't stand there: each kind at each place", EdgesOfTextTest::wrongKinds);
        edges.of(4, "of a byte that begins none", EdgesOfTextTest::bytesThatBeginNone);
        edges.of(4, "a word that is none of these", EdgesOfTextTest::wordsThatAreNone);
        edges.of(4, "a NUMBER above 99", EdgesOfTextTest::numbersAbove99);
        edges.of(4, "a NUMBER with a 0 ahead of others", EdgesOfTextTest::numbersWith0Ahead);
        edges.of(4, "the text's length, if it ends too early", EdgesOfTextTest::endsTooEarly);
        edges.of(4, "-10 less FAULT: the least and the greatest", EdgesOfTextTest::leastAndGreatestFault);
        edges.of(4, "nothing changes (THE TEXT stays, too)", EdgesOfTextTest::nothingChangesByAFault);
        edges.of(4, "THE TEXT stays, and can be typed on", EdgesOfTextTest::textStays);
        edges.of(4, "is empty then", EdgesOfTextTest::textIsEmptyThen);
    }

    private static void readingAnew(Edges edges) {
        edges.of(4, "tells all anew", EdgesOfTextTest::allAnew);
        edges.of(4, "Read anew: all are in", EdgesOfTextTest::anewAllIn);
        edges.of(4, "Read anew: STREAK 0", EdgesOfTextTest::anewStreak0);
        edges.of(4, "Read anew: IMAGES are gone", EdgesOfTextTest::anewImagesGone);
        edges.of(4, "Read anew: nothing can be UNDONE", EdgesOfTextTest::anewNothingUndone);
        edges.of(4, "Read anew: THE LOT stays", EdgesOfTextTest::anewLotStays);
        edges.of(4, "Read anew: THE TRACE goes on", EdgesOfTextTest::anewTraceGoesOn);
    }

    private static void counting(Edges edges) {
        edges.of(23, "0 CHILDREN", EdgesOfTextTest::countChildren);
        edges.of(23, "1 LITTLE ones", EdgesOfTextTest::countLittle);
        edges.of(23, "2 those who are in", EdgesOfTextTest::countIn);
        edges.of(23, "3 bytes of THE TEXT", EdgesOfTextTest::countBytes);
        edges.of(23, "BAD", EdgesOfTextTest::countBad);
    }

    // ---- promise 1

    private static void noChildren(Due due) {
        SimonSays x = new SimonSays();
        due.is("count(0)", x.count(0), 0);
        due.is("count(1)", x.count(1), 0);
        due.is("count(2)", x.count(2), 0);
        due.is("now(0)", x.now(0), 0);
        due.is("now(2), nobody is out", x.now(2), 1);
        due.is("child(0, 0)", x.child(0, 0), -1);
        due.is("errs(0, 1)", x.errs(0, 1), -1);
        due.is("comesBack(0)", x.comesBack(0), -1);
        due.is("stays(0, 1, 0)", x.stays(0, 1, 0), -1);
        due.is("lure(0, 0)", x.lure(0, 0), -1);
        due.is("rate(0, 0)", x.rate(0, 0), -1000000);
        due.is("call(1)", x.call(1), -2);
    }

    private static void noOrders(Due due) {
        SimonSays x = new SimonSays();
        due.is("now(1)", x.now(1), 0);
        due.is("now(3)", x.now(3), 0);
        due.is("undo()", x.undo(), -2);
    }

    private static void noImages(Due due) {
        SimonSays x = new SimonSays();
        due.is("back(0)", x.back(0), -2);
        due.is("back(1)", x.back(1), -2);
    }

    private static void lotAtFirst(Due due) {
        due.is("lot(0)", new SimonSays().lot(0), 1);
        SimonSays told = Due.told(ONE);
        due.is("lot(0) of children who were told", told.lot(0), 1);
    }

    private static void traceAtFirst(Due due) {
        due.is("trace()", new SimonSays().trace(), 0);
        due.is("trace() of children who were told", Due.told(ONE).trace(), 0);
    }

    private static void noText(Due due) {
        SimonSays x = new SimonSays();
        due.is("count(3)", x.count(3), 0);
        due.is("clear()", x.clear(), 0);
        due.is("children()", x.children(), 0);
    }

    private static void newAmongUsed(Due due) {
        Refusals.amid();
        Refusals.full();
        SimonSays used = Refusals.nobodyIn();
        noChildren(due);
        noOrders(due);
        noImages(due);
        lotAtFirst(due);
        traceAtFirst(due);
        noText(due);
        due.is("the used one has its own children", used.count(0), 3);
    }

    private static void calls512(Due due) {
        SimonSays orders = Due.told("child 0 0 9;");
        for (int call = 4; call <= 511; call++) {
            orders.call(1);
        }
        due.is("the 512th call: now(1)", orders.now(1), 9);
        SimonSays rates = Due.told(ONE);
        for (int call = 4; call <= 511; call++) {
            rates.rate(5, 0);
        }
        due.is("the 512th call: trace()", rates.trace(), 508L * 100001);
        SimonSays bytes = new SimonSays();
        for (int call = 1; call <= 511; call++) {
            due.is("type(32, 1), call " + call, bytes.type(32, 1), call <= 200 ? call : -3);
        }
        due.is("the 512th call: children()", bytes.children(), 0);
    }

    private static void constants(Due due) {
        due.is("BAD", SimonSays.BAD, -1);
        due.is("STATE", SimonSays.STATE, -2);
        due.is("FULL", SimonSays.FULL, -3);
        due.is("NONE", SimonSays.NONE, -9);
        due.is("NO", SimonSays.NO, -1000000);
    }

    // ---- promise 2

    private static void typeTakes1To8(Due due) {
        for (int n = 1; n <= 8; n++) {
            due.is("type(.., " + n + ")", new SimonSays().type(0x6161616161616161L, n), n);
        }
    }

    private static void typeRefusesOthers(Due due) {
        for (int n : new int[] {0, 9, -1, 10, 16, 64, MIN, MIN + 1, MAX}) {
            Refusals.bad(due, "type(97, " + n + ")", x -> x.type(97, n));
        }
    }

    private static void lowestBytes(Due due) {
        for (int n = 1; n <= 7; n++) {
            long blanks = 0x2020202020202020L & (1L << 8 * n) - 1;
            long signs = 0x3f3f3f3f3f3f3f3fL << 8 * n;
            SimonSays x = new SimonSays();
            x.type(signs | blanks, n);
            due.is("children() of the " + n + " lowest, all blanks", x.children(), 0);
        }
        SimonSays x = new SimonSays();
        x.type(0x2020202020202020L, 8);
        due.is("children() of eight blanks", x.children(), 0);
    }

    private static void highestFirst(Due due) {
        for (int n = 1; n <= 8; n++) {
            for (int place = 0; place < n; place++) {
                int shift = 8 * (n - 1 - place);
                SimonSays x = new SimonSays();
                x.type(0x2020202020202020L & ~(255L << shift) | 63L << shift, n);
                due.is("children() of " + n + " bytes, ? at " + place, x.children(), -10 - place);
            }
        }
    }

    private static void bytesAbove127(Due due) {
        // a sign that is stretched over the bytes above it would make other bytes of these
        for (long v : new long[] {-1L, Long.MIN_VALUE, Long.MAX_VALUE, 0x8080808080808080L}) {
            SimonSays x = new SimonSays();
            due.is("type(" + v + ", 8)", x.type(v, 8), 8);
            due.is("children()", x.children(), -10);
        }
        // 160 is 32 and 128, 187 is the ; and 128: neither is a blank or a ;
        SimonSays blank = new SimonSays();
        blank.type(160, 1);
        due.is("children() of byte 160", blank.children(), -10);
        SimonSays semicolon = new SimonSays();
        Due.typed(semicolon, "child 1 2 9");
        semicolon.type(187, 1);
        due.is("children() with byte 187", semicolon.children(), -21);
        // 288 is a blank and a bit above its byte
        SimonSays low = new SimonSays();
        low.type(288, 1);
        due.is("children() of type(288, 1)", low.children(), 0);
    }

    private static void howManyItHas(Due due) {
        SimonSays x = new SimonSays();
        int has = 0;
        for (int n = 1; n <= 8; n++) {
            has += n;
            due.is("type(.., " + n + ")", x.type(32, n), has);
        }
    }

    private static SimonSays withBytes(int bytes) {
        SimonSays x = new SimonSays();
        Due.typed(x, " ".repeat(bytes));
        return x;
    }

    private static void the200th(Due due) {
        for (int n = 1; n <= 8; n++) {
            SimonSays x = withBytes(200 - n);
            due.is("type(.., " + n + ") at " + (200 - n), x.type(0x2020202020202020L, n), 200);
            due.is("count(3)", x.count(3), 200);
            due.is("children()", x.children(), 0);
        }
    }

    private static void the201st(Due due) {
        for (int n = 1; n <= 8; n++) {
            int bytes = n;
            for (int has = 201 - n; has <= 200; has++) {
                int ahead = has;
                Refusals.refused(due, "type(.., " + n + ") at " + has, () -> withBytes(ahead),
                        x -> x.type(0x3f3f3f3f3f3f3f3fL, bytes), Refusals.FULL);
            }
        }
        Refusals.refused(due, "type(32, 1)", Refusals::full, x -> x.type(32, 1), Refusals.FULL);
    }

    private static void badAheadOfFull(Due due) {
        for (int n : new int[] {0, 9, -1, MIN, MAX}) {
            Refusals.refused(due, "type(32, " + n + ") at 200", () -> withBytes(200), x -> x.type(32, n), Refusals.BAD);
        }
    }

    private static void roomAgain(Due due) {
        SimonSays x = withBytes(200);
        due.is("type(32, 1) at 200", x.type(32, 1), -3);
        due.is("clear()", x.clear(), 200);
        due.is("type(32, 1) behind clear()", x.type(32, 1), 1);
        Due.typed(x, " ".repeat(199));
        due.is("children()", x.children(), 0);
        due.is("type(32, 8) behind children()", x.type(32, 8), 8);
    }

    // ---- promise 3

    private static void clearNothing(Due due) {
        SimonSays x = new SimonSays();
        due.is("clear() of a new object", x.clear(), 0);
        x.type(63, 1);
        due.is("clear() of one byte", x.clear(), 1);
        due.is("clear() again", x.clear(), 0);
        due.is("children()", x.children(), 0);
    }

    private static void clear200(Due due) {
        SimonSays x = withBytes(200);
        due.is("clear()", x.clear(), 200);
        due.is("count(3)", x.count(3), 0);
        due.is("children()", x.children(), 0);
    }

    private static void clearTheTextAlone(Due due) {
        SimonSays cleared = Refusals.amid();
        due.is("clear()", cleared.clear(), 9);
        due.is("typed anew", Due.typed(cleared, "child 7 6"), 9);
        due.is("where it shows", Sight.firstDifference(cleared, Refusals.amid()), -1);
    }

    // ---- promise 4: what may be told

    private static int read(String text) {
        SimonSays x = new SimonSays();
        Due.typed(x, text);
        return x.children();
    }

    private static void items(Due due, String text, int want) {
        due.is("children() of '" + text + "'", read(text), want);
    }

    private static void fault(Due due, String text, int place) {
        due.is("children() of '" + text + "'", read(text), -10 - place);
    }

    private static void sixChildren(Due due) {
        SimonSays x = new SimonSays();
        Due.typed(x, SIX);
        due.is("children()", x.children(), 6);
        due.is("count(0)", x.count(0), 6);
        due.is("child(5, 1)", x.child(5, 1), 2);
        due.is("child(6, 1)", x.child(6, 1), -1);
    }

    private static void seventhChild(Due due) {
        fault(due, SIX + ONE, 72);
        fault(due, SIX + "  child 1 2 9;", 74);
        fault(due, SIX + "little 5;child 1 2 9;", 81);
        // it is the word that can't stand there, whatever is behind it
        fault(due, SIX + "child ?", 72);
        fault(due, SIX + "child", 72);
        Refusals.refused(due, "a seventh child", () -> {
            SimonSays x = Refusals.amid();
            x.clear();
            Due.typed(x, SIX + ONE);
            return x;
        }, SimonSays::children, -82);
    }

    private static void slips(Due due) {
        for (int slip = 0; slip <= 9; slip++) {
            SimonSays x = Due.told("child " + slip + " 2 9;");
            due.is("child(0, 0)", x.child(0, 0), slip);
        }
        fault(due, "child 10 2 9;", 6);
        fault(due, "child 11 2 9;", 6);
        fault(due, "child 99 2 9;", 6);
        fault(due, "child -1 2 9;", 6);
        fault(due, ONE + "child 10 2 9;", 18);
    }

    private static void lates(Due due) {
        for (int late = 0; late <= 9; late++) {
            SimonSays x = Due.told("child 1 " + late + " 9;");
            due.is("child(0, 1)", x.child(0, 1), late);
        }
        fault(due, "child 1 10 9;", 8);
        fault(due, "child 1 11 9;", 8);
        fault(due, "child 1 99 9;", 8);
        fault(due, "child 1 -1 9;", 8);
        fault(due, ONE + "child 1 10 9;", 20);
    }

    private static void copies(Due due) {
        for (int k = 0; k < 6; k++) {
            for (int c = 0; c <= 11; c++) {
                String text = ONE.repeat(k) + "child 1 2 " + c + ";";
                if (c < k || c == 9) {
                    items(due, text, k + 1);
                    due.is("child(" + k + ", 2)", Due.told(text).child(k, 2), c);
                } else {
                    fault(due, text, 12 * k + 10);
                }
            }
        }
        fault(due, SIX.substring(0, 60) + "child 1 2 99;", 70);
    }

    private static void notLittleAtFirst(Due due) {
        SimonSays x = Due.told(SIX);
        for (int k = 0; k < 6; k++) {
            due.is("child(" + k + ", 3)", x.child(k, 3), 0);
        }
        due.is("count(1)", x.count(1), 0);
        Due.typed(x, ONE + "little 0;");
        x.children();
        due.is("child(0, 3), told so", x.child(0, 3), 1);
        Due.typed(x, ONE);
        x.children();
        due.is("child(0, 3), told anew", x.child(0, 3), 0);
    }

    private static void littleWhoWasTold(Due due) {
        for (int k = 0; k < 6; k++) {
            SimonSays x = Due.told(SIX + "little " + k + ";");
            for (int other = 0; other < 6; other++) {
                due.is("child(" + other + ", 3), " + k + " is little", x.child(other, 3), other == k ? 1 : 0);
            }
        }
        // told ahead of it is enough, others may come behind
        items(due, ONE + "little 0;" + ONE + "little 1;little 0;", 5);
    }

    private static void littleWhoWasNotTold(Due due) {
        fault(due, "little 0;", 7);
        for (int told = 1; told <= 6; told++) {
            for (int k : new int[] {told, 8, 9, 10, 99}) {
                if (k >= told) {
                    fault(due, ONE.repeat(told) + "little " + k + ";", 12 * told + 7);
                }
            }
        }
        // told later is not told
        fault(due, ONE + "little 1;" + ONE, 19);
    }

    private static void littleAgain(Due due) {
        SimonSays x = new SimonSays();
        Due.typed(x, ONE + ONE + "little 1;little 1;little 1;");
        due.is("children()", x.children(), 5);
        due.is("child(1, 3)", x.child(1, 3), 1);
        due.is("child(0, 3)", x.child(0, 3), 0);
        due.is("count(1)", x.count(1), 1);
    }

    private static void noItems(Due due) {
        SimonSays x = Refusals.nobodyIn();
        x.clear();
        due.is("children()", x.children(), 0);
        due.is("count(0)", x.count(0), 0);
        due.is("now(0)", x.now(0), 0);
        due.is("child(0, 0)", x.child(0, 0), -1);
        due.is("back(0)", x.back(0), -2);
    }

    private static void blanksAlone(Due due) {
        SimonSays x = Refusals.amid();
        x.clear();
        Due.typed(x, " ".repeat(200));
        due.is("children()", x.children(), 0);
        due.is("count(0)", x.count(0), 0);
        due.is("count(3)", x.count(3), 0);
    }

    private static void mostItems(Due due) {
        String text = "child0 0 9;" + "little0;".repeat(23);
        items(due, text, 24);
        items(due, text + " ".repeat(5), 24);
        items(due, " ".repeat(5) + text, 24);
        fault(due, text + "    ;", 199);
    }

    // ---- promise 4: tokens

    private static void anyNumberOfBlanks(Due due) {
        String[] tokens = {"", "child", "1", "2", "9", ";", "little", "0", ";"};
        for (int n = 1; n <= 18; n++) {
            StringBuilder text = new StringBuilder();
            for (String token : tokens) {
                text.append(token).append(" ".repeat(n));
            }
            items(due, text.toString(), 2);
        }
        items(due, "child1 2 9;little0;", 2);
        items(due, "child1 2 9;child1 2 0;", 2);
        items(due, " ".repeat(188) + ONE, 1);
        items(due, ONE + " ".repeat(188), 1);
        items(due, "child" + " ".repeat(189) + "1 2 9;", 1);
    }

    private static void noOtherBlanks(Due due) {
        for (int sign = 0; sign <= 255; sign++) {
            String text = "child 1 2 9" + (char) sign + ";";
            boolean figure = sign >= '0' && sign <= '9';
            if (sign == ' ') {
                items(due, text, 1);
            } else if (sign == ';') {
                fault(due, text, 12);
            } else {
                fault(due, text, figure ? 10 : 11);
            }
        }
    }

    private static void blanksBetweenWords(Due due) {
        fault(due, "childlittle 0;", 0);
        fault(due, "child little 0;", 6);
        fault(due, ONE + "littlechild 0;", 12);
        items(due, ONE + "little0;child1 2 0;", 3);
        // not needed between a NUMBER and a word, nor at the ;
        fault(due, "child1child", 6);
        items(due, "child1 2 9;child1 2 9;", 2);
    }

    private static void blanksBetweenNumbers(Due due) {
        fault(due, "child 12 9;", 6);
        fault(due, "child 1 29;", 8);
        fault(due, "child 129;", 6);
        items(due, "child1 2 9;", 1);
    }

    private static void endedBySemicolon(Due due) {
        items(due, ONE, 1);
        fault(due, "child 1 2 9", 11);
        fault(due, "child 1 2 9 child 1 2 9;", 12);
        fault(due, "child 1 2 9 little 0;", 12);
        fault(due, ONE + "little 0", 20);
        fault(due, ONE + "little 0 child 1 2 9;", 21);
        fault(due, ONE + "little 0 little 0;", 21);
        // one ; alone ends one item
        fault(due, ONE + ";", 12);
        fault(due, ";" + ONE, 0);
        fault(due, ONE + "little 0;;", 21);
    }

    private static void lettersAToZ(Due due) {
        // a and z make another word of it; the bytes beside them begin none, at their own place
        fault(due, "childa 1 2 9;", 0);
        fault(due, "childz 1 2 9;", 0);
        fault(due, "child` 1 2 9;", 5);
        fault(due, "child{ 1 2 9;", 5);
        fault(due, "childA 1 2 9;", 5);
        fault(due, "childZ 1 2 9;", 5);
        fault(due, ONE + "littlea 0;", 12);
        fault(due, ONE + "littlez 0;", 12);
        fault(due, ONE + "little` 0;", 18);
        fault(due, ONE + "little{ 0;", 18);
        fault(due, "CHILD 1 2 9;", 0);
        fault(due, "Child 1 2 9;", 0);
        fault(due, "chilD 1 2 9;", 0);
    }

    private static void figures0To9(Due due) {
        items(due, "child 0 0 9;", 1);
        items(due, "child 9 9 9;", 1);
        // the bytes beside 0 and 9 begin none
        fault(due, "child / 2 9;", 6);
        fault(due, "child : 2 9;", 6);
        fault(due, "child 1/ 2 9;", 7);
        fault(due, "child 1: 2 9;", 7);
        fault(due, "child 1.0 2 9;", 7);
        fault(due, "child +1 2 9;", 6);
    }

    // ---- promise 4: faults

    private static void firstThatCannotStand(Due due) {
        fault(due, "?child ?", 0);
        fault(due, "child 10 ? 9;", 6);
        fault(due, "child ? 10 9;", 6);
        fault(due, "child 1 10 99;", 8);
        fault(due, "child 1 2 0; xyz", 10);
        fault(due, ONE + "little 1; 00", 19);
        // its first byte, not its last
        fault(due, "   nonsense 1;", 3);
        fault(due, "child   77 2 9;", 8);
        // what stands is not at fault, though an ITEM ahead of it could be refused as a whole
        fault(due, "child 1 2 9 9;", 12);
    }

    private static void wrongKinds(Due due) {
        String[] tokens = {"child", "1", "2", "9", ";", "little", "0", ";"};
        String[] others = {"child", "little", "0", ";", "?", "x"};
        String ahead = "";
        for (String token : tokens) {
            boolean number = Character.isDigit(token.charAt(0));
            boolean word = Character.isLetter(token.charAt(0));
            for (String other : others) {
                boolean mayStand = number ? other.equals("0") : word ? other.equals("child") || other.equals("little") : other.equals(token);
                if (!mayStand) {
                    fault(due, ahead + other + " ;", ahead.length());
                }
            }
            ahead += token + " ";
        }
        fault(due, "little ;", 7);
        fault(due, "5", 0);
    }

    private static void bytesThatBeginNone(Due due) {
        for (int sign = 0; sign <= 255; sign++) {
            boolean letter = sign >= 'a' && sign <= 'z';
            boolean figure = sign >= '0' && sign <= '9';
            if (sign != ' ' && !letter && !figure && sign != ';') {
                fault(due, ONE + " " + (char) sign, 13);
                fault(due, "child" + (char) sign, 5);
            }
        }
    }

    private static void wordsThatAreNone(Due due) {
        String[] none = {"a", "z", "chil", "childs", "hild", "xhild", "chxld", "chilx", "cihld", "children", "childchild",
            "littl", "littles", "ittle", "xittle", "litxle", "littlx", "littel", "littlechild"};
        for (String word : none) {
            fault(due, word + " 1 2 9;", 0);
            fault(due, ONE + word + " 0;", 12);
        }
        fault(due, "x".repeat(200), 0);
        fault(due, " ".repeat(199) + "c", 199);
        fault(due, " ".repeat(195) + "child", 200);
        fault(due, " ".repeat(196) + "chil", 196);
    }

    private static void numbersAbove99(Due due) {
        String[] above = {"100", "101", "109", "999", "256", "257", "65536", "2147483648", "4294967296", "4294967297",
            "18446744073709551616", "18446744073709551617", "1" + "0".repeat(50)};
        for (String number : above) {
            fault(due, "child " + number + " 2 9;", 6);
            fault(due, "child 1 " + number + " 9;", 8);
            fault(due, ONE + "child 1 2 " + number + ";", 22);
            fault(due, ONE + "little " + number + ";", 19);
        }
        // beyond all that a number of the machine can hold
        for (int figures = 100; figures <= 194; figures++) {
            fault(due, "child " + "9".repeat(figures), 6);
            fault(due, "child 1" + "0".repeat(figures - 1), 6);
        }
    }

    private static void numbersWith0Ahead(Due due) {
        for (String number : new String[] {"00", "01", "09", "000", "001", "010", "0000000000", "0".repeat(150)}) {
            fault(due, "child " + number + " 2 9;", 6);
            fault(due, "child 1 " + number + " 9;", 8);
            fault(due, ONE + "child 1 2 " + number + ";", 22);
            fault(due, ONE + "little " + number + ";", 19);
        }
        items(due, "child 0 0 9;child 0 0 0;little 0;", 3);
    }

    private static void endsTooEarly(Due due) {
        String[] tokens = {"child", "1", "2", "9"};
        for (String ahead : new String[] {"", ONE, ONE + "little 0;"}) {
            StringBuilder text = new StringBuilder(ahead);
            for (String token : tokens) {
                text.append(token);
                fault(due, text.toString(), text.length());
                text.append(' ');
                fault(due, text.toString(), text.length());
                fault(due, text + "     ", text.length() + 5);
            }
        }
        fault(due, ONE + "little", 18);
        fault(due, ONE + "little ", 19);
        fault(due, ONE + "little 0", 20);
        fault(due, ONE + "little 0 ", 21);
    }

    private static void leastAndGreatestFault(Due due) {
        fault(due, ";", 0);
        fault(due, ONE + " ".repeat(187) + ";", 199);
        fault(due, ONE + " ".repeat(183) + "child", 200);
        fault(due, "child" + " ".repeat(195), 200);
        fault(due, SIX + " ".repeat(122) + "little", 200);
    }

    private static SimonSays amidWith(String text) {
        SimonSays x = Refusals.amid();
        x.clear();
        Due.typed(x, text);
        return x;
    }

    private static void nothingChangesByAFault(Due due) {
        String[] texts = {";", "child 7 7 9; child 8 8 0; little 1; child 10 1 9;", "child 7 7 9; little 0; child", "child 7 7 9; x",
            "child 7 7 9; little 1;", "child 7 7 9; child 7 7 1;", "child 7 7 9; \u00ff", "child 7 7 9; little 00;", "child 7 7 9; child 100"};
        int[] places = {0, 42, 28, 13, 20, 23, 13, 20, 19};
        for (int n = 0; n < texts.length; n++) {
            String text = texts[n];
            Refusals.refused(due, "children() of '" + text + "'", () -> amidWith(text), SimonSays::children, -10 - places[n]);
        }
        Refusals.refused(due, "children() of 'child 1 2 9;;'", Refusals::nobodyIn, SimonSays::children, -22);
    }

    private static void textStays(Due due) {
        SimonSays x = amidWith("child 4 3");
        due.is("children()", x.children(), -19);
        due.is("count(3)", x.count(3), 9);
        due.is("children() again", x.children(), -19);
        due.is("typed on", Due.typed(x, " 9;"), 12);
        due.is("children()", x.children(), 1);
        due.is("child(0, 0)", x.child(0, 0), 4);
        due.is("child(0, 1)", x.child(0, 1), 3);
    }

    private static void textIsEmptyThen(Due due) {
        SimonSays x = new SimonSays();
        Due.typed(x, SIX + " ".repeat(128));
        due.is("children()", x.children(), 6);
        due.is("count(3)", x.count(3), 0);
        due.is("clear()", x.clear(), 0);
        due.is("children() of no text", x.children(), 0);
        due.is("count(0)", x.count(0), 0);
    }

    // ---- promise 4: read anew

    private static SimonSays anew(SimonSays x, String text) {
        x.clear();
        Due.typed(x, text);
        x.children();
        return x;
    }

    private static void allAnew(Due due) {
        SimonSays x = anew(Refusals.amid(), "child 8 7 9;child 6 5 0;");
        long[][] want = {{8, 7, 9, 0, 1, 0}, {6, 5, 0, 0, 1, 0}};
        for (int k = 0; k < 2; k++) {
            for (int what = 0; what < 6; what++) {
                due.is("child(" + k + ", " + what + ")", x.child(k, what), want[k][what]);
            }
        }
        due.is("child(2, 0), told no more", x.child(2, 0), -1);
        due.is("count(0)", x.count(0), 2);
        due.is("count(1), none is little", x.count(1), 0);
    }

    private static void anewAllIn(Due due) {
        due.is("now(0), of one", anew(Refusals.nobodyIn(), ONE).now(0), 1);
        due.is("now(0), of six", anew(Refusals.nobodyIn(), SIX).now(0), 63);
        due.is("now(0), of fewer", anew(Refusals.full(), ONE + ONE).now(0), 3);
        due.is("now(0), of none", anew(Refusals.full(), "").now(0), 0);
    }

    private static void anewStreak0(Due due) {
        due.is("streak ahead", Refusals.full().now(1), 9);
        due.is("streak", anew(Refusals.full(), ONE).now(1), 0);
        due.is("errs(0, 2)", anew(Refusals.full(), ONE).errs(0, 2), 1);
    }

    private static void anewImagesGone(Due due) {
        SimonSays x = anew(Refusals.full(), ONE);
        due.is("back(0)", x.back(0), -2);
        due.is("back(1)", x.back(1), -2);
        due.is("keep(0)", x.keep(0), 1);
        due.is("back(0), kept anew", x.back(0), 1);
        due.is("back(1)", x.back(1), -2);
    }

    private static void anewNothingUndone(Due due) {
        SimonSays x = anew(Refusals.full(), ONE);
        due.is("now(3)", x.now(3), 0);
        due.is("undo()", x.undo(), -2);
        x.call(1);
        due.is("now(3)", x.now(3), 1);
        due.is("undo()", x.undo(), 0);
    }

    private static void anewLotStays(Due due) {
        SimonSays x = Refusals.full();
        x.lot(MIN);
        due.is("lot(1)", anew(x, ONE).lot(1), MIN);
        due.is("lot(1), the children gone", anew(x, "").lot(2), 1);
    }

    private static void anewTraceGoesOn(Due due) {
        SimonSays x = Refusals.amid();
        due.is("trace() ahead", x.trace(), 10101);
        anew(x, ONE);
        due.is("trace()", x.trace(), 10101);
        x.rate(0, 0);
        due.is("trace() behind rate(0, 0)", x.trace(), 10102);
    }

    // ---- promise 23

    private static void countChildren(Due due) {
        for (int n = 0; n <= 6; n++) {
            due.is("count(0) of " + n, Due.told(ONE.repeat(n)).count(0), n);
        }
        due.is("count(0), all out", Refusals.nobodyIn().count(0), 3);
    }

    private static void countLittle(Due due) {
        StringBuilder text = new StringBuilder(SIX);
        for (int n = 0; n <= 6; n++) {
            due.is("count(1) of " + n, Due.told(text.toString()).count(1), n);
            text.append("little ").append(n).append(';');
        }
        due.is("count(1), told twice", Due.told(ONE + "little 0;little 0;").count(1), 1);
        due.is("count(1), the little one out", Refusals.nobodyIn().count(1), 1);
    }

    private static void countIn(Due due) {
        due.is("count(2) of six", Due.told(SIX).count(2), 6);
        due.is("count(2) of five, one out", Refusals.amid().count(2), 4);
        due.is("count(2), all out", Refusals.nobodyIn().count(2), 0);
        due.is("count(2), no children", Due.told("").count(2), 0);
    }

    private static void countBytes(Due due) {
        for (int bytes : new int[] {0, 1, 8, 199, 200}) {
            due.is("count(3) of " + bytes, withBytes(bytes).count(3), bytes);
        }
    }

    private static void countBad(Due due) {
        for (int what : new int[] {-1, 4, 5, MIN, MAX}) {
            Refusals.bad(due, "count(" + what + ")", x -> x.count(what));
        }
    }
}
