import java.util.ArrayList;
import java.util.List;

/**
 * Ways to break the program, each with the sentences of the document that are broken by it. The
 * text that is changed is the first one behind the place that is told ahead of it; BreaksTest tells
 * which of these must be told anew when the program is written otherwise.
 */
final class Breaks {
    /** One way: behind `place`, `old` becomes `changed`, and the tests of the sentences must see it. */
    record Break(String place, String old, String changed, List<String> sentences) {
    }

    private final List<Break> all = new ArrayList<>();

    static List<Break> all() {
        Breaks breaks = new Breaks();
        breaks.ofLimits();
        breaks.ofTheMap();
        breaks.ofActs();
        breaks.ofAsked();
        breaks.ofChances();
        breaks.ofSlots();
        breaks.ofTheText();
        breaks.ofTheState();
        breaks.ofGuesses();
        breaks.ofWhatComesOut();
        return breaks.all;
    }

    private void at(String place, String old, String changed, String... sentences) {
        all.add(new Break(place, old, changed, List.of(sentences)));
    }

    private void ofLimits() {
        at("UNKNOWN", "-1", "-11", "refusalNumbers", "numbers", "picture");
        at("BAD", "-2", "-12", "refusalNumbers", "shift", "refusalOrder");
        at("LATE", "-3", "-13", "refusalNumbers", "ownCell");
        at("FULL", "-4", "-14", "refusalNumbers", "seenSix", "letters");
        at("NONE", "-9", "-19", "none", "faultEnd", "guessNone", "p4", "p8", "p19");
        at("int MOST_SHADES", "20", "19", "shades", "faultTwenty", "faultLength", "seenValue", "p20");
        at("int MOST_SHADES", "20", "21", "shades", "faultTwenty", "faultLength", "seenValue", "p20");
        at("int MOST_SIDE", "6", "5", "size", "mapFigures", "laidApart", "p13");
        at("int MOST_SIDE", "6", "7", "size", "mapFigures", "laidApart", "p13");
        at("int MOST_LETTERS", "70", "69", "letters", "p2full", "p3");
        at("int MOST_LETTERS", "70", "71", "letters", "p2full", "p3");
        at("int MOST_ACTS", "14", "13", "actsForgotten", "calls", "p17");
        at("int MOST_ACTS", "14", "15", "actsForgotten", "calls", "p17");
        at("int MOST_SEEN", "6", "5", "seenSix", "p20", "p21");
        at("int MOST_SEEN", "6", "7", "seenSix", "p20", "p21", "refusalOrder");
        at("int SLOTS", "2", "1", "slots", "p28", "p29");
        at("int SLOTS", "2", "3", "slots", "p28", "p29");
        at("int MOST_DOINGS", "4", "3", "judgeCount", "p19", "judgeFigures");
        at("int MOST_DOINGS", "4", "5", "judgeCount");
        at("int MOST_DRAWN", "20", "19", "drawnTimes", "p27");
        at("int MOST_DRAWN", "20", "21", "drawnTimes", "p27", "refusedNothing");
        at("int MOST_MISS_ASKED", "9999", "9998", "chanceOrLess", "p24");
        at("int MOST_MISS_ASKED", "9999", "10000", "chanceOrLess", "p24");
        at("DOINGS_END", "1000L", "1001L", "judgeFigures", "p19");
        at("DOINGS_END", "1000000000000L", "999999999999L", "judgeFigures", "p19");
        at("DOINGS_END", "1000000000L", "999999999L", "p19");
        at("ORDERS_BY_LOST", "6, 2, 2, 6", "6, 2, 6, 2", "share");
        at("ORDERS_BY_LOST", "6, 2, 2, 6", "2, 2, 2, 6", "share", "p23");
        at("ORDERS_BY_LOST", "6, 2, 2, 6", "6, 2, 2, 2", "share", "shareAllLost");
    }

    private void ofTheMap() {
        at("int write(", "letter < 0", "letter < 1", "p2");
        at("int write(", "letter < 0", "letter < -1", "p2", "refusedNothing");
        at("int write(", "> 255", "> 254", "p2");
        at("int write(", "> 255", "> 256", "p2");
        at("int write(", "if (letter < 0 || letter > 255) {\n            return BAD;\n        }\n        "
            + "return text.add(letter) ? text.length : FULL;",
            "if (text.length >= MOST_LETTERS) {\n            return FULL;\n        }\n        "
            + "return letter < 0 || letter > 255 ? BAD : text.add(letter) ? text.length : FULL;",
            "refusalOrder", "p2full");
        at("int wipe(", "return was", "return 0", "p3", "letters");
        at("int wipe(", "text.length = 0", "text.length = 1", "p3", "notUndone");
        at("int fault(", "text.readInto(trial)", "text.readInto(now)", "p4");
        at("int about(", "return now.rows", "return trial.rows", "p4");
        at("int shade(", "!now.hasShade", "!trial.hasShade", "p4");
        at("int cell(", "!now.hasCell", "!trial.hasCell", "p4");
        at("int guess(", "now.numbersOf", "trial.numbersOf", "p4");
        at("int change(", "remember(now)", "remember(trial)", "p4");
        at("int move(", "!now.hasCell", "!trial.hasCell", "p4");
        at("int lay(", "now.shades", "trial.shades", "p4");
        at("int lay(", "remember(now)", "remember(trial)", "p4");
        at("int shift(", "remember(now)", "remember(trial)", "p4");
        at("int band(", "now.cellsWithin", "trial.cellsWithin", "p4");
        at("int map(", "text.readInto(trial) != NONE", "text.readInto(now) != NONE", "lateMap", "p5late");
        at("int map(", "!= NONE", "== text.length + 1", "p5late", "faultEnd", "cells");
        at("int map(", "now.copy(trial)", "now.shades = trial.shades", "p5", "seenNow");
        at("int map(", "acts.forgetAll();", "", "p5");
        at("int map(", "slots.forgetAll();", "", "p5kept", "lateMap");
        at("int map(", "slots.forgetAll();", "slots.forgetAll(); text.length = 0;", "p5kept");
        at("int map(", "slots.forgetAll();", "slots.forgetAll(); seen.size = 0;", "p5kept");
        at("int map(", "slots.forgetAll();", "slots.forgetAll(); theSeed = 0;", "p5kept");
        at("int map(", "return LATE", "slots.forgetAll();\n            return LATE", "lateMap");
        at("int map(", "return LATE", "acts.forgetAll();\n            return LATE", "lateMap", "p5late");
        at("int about(", "case 5: return blankNow()", "case 5: return now.lost", "p6", "outBlank");
        at("int about(", "sideOf(0)", "sideOf(1)", "p6", "sides");
        at("int about(", "return now.shift", "return 1", "p6");
        at("int about(", "return blankNow()", "return 1", "p6");
        at("int about(", "return sideOf(1)", "return 0", "p6");
        at("int about(", "return bestShift()", "return 1", "p6");
        at("int about(", "return band()", "return 1", "p6");
        at("int dot(", "return now.dots[line * DOTS + dot]", "return 1", "p10");
        at("int about(", "sideOf(1)", "sideOf(0)", "p6", "sides", "allAlike");
        at("int about(", "case 12: return acts.size", "case 12: return acts.first", "p6", "actsKinds",
            "actsEach");
        at("int about(", "default: return BAD", "default: return UNKNOWN", "p6");
        at("int about(", "case 14: return text.length;", "case 14: case 15: return text.length;", "p6");
        at("int shade(", "case 2: return", "case 2: case 3: return", "p7");
        at("int shade(", "default: return BAD", "default: return UNKNOWN", "p7");
        at("int shade(", "!now.hasShade(shade)", "(what < 0 || what > 2) ? BAD == 0 : !now.hasShade(shade)",
            "refusalOrder", "p7");
        at("int cell(", "return UNKNOWN", "return NONE", "p8", "numbers", "refusalNumbers");
        at("int guess(", "half < 0", "half < -1", "p9", "refusalOrder");
        at("int guess(", "half >= HALVES", "half > HALVES", "p9");
        at("int guess(", "return BAD", "return UNKNOWN", "p9", "refusalOrder");
        at("int guess(", "number < 0", "number < -1", "p9");
        at("int guess(", "number >= now", "number > now", "p9", "numbers");
        at("int dot(", "!out", "out", "p10");
        at("int dot(", "return UNKNOWN", "return 0", "p10", "picture", "refusalNumbers");
        at("int dot(", "outcome.send(now, now.shift, now.lost)", "outcome.send(now, now.shift, 0)", "p10",
            "outOne", "packs", "halfOne");
    }

    private void ofActs() {
        at("int change(", "!now.hasShade(a)", "a == HALVES - 3", "p11");
        at("int change(", "a == b", "a > b", "p11", "changed");
        at("int change(", "if (a == b)", "if (a == b + 9)", "p11", "changed", "actsEach", "refusedNothing");
        at("int change(", "return bothSides(now)", "return sideOf(0)", "p11");
        at("int change(", "return bothSides(now)", "return sideOf(1)", "p11");
        at("int move(", "return bothSides(now)", "return sideOf(0)", "p12");
        at("int move(", "return bothSides(now)", "return sideOf(1)", "p12");
        at("int lay(", "return bothSides(now)", "return sideOf(0)", "p13");
        at("int lay(", "return bothSides(now)", "return sideOf(1)", "p13");
        at("int change(", "now.swap(a, b);", "now.swap(a, b);\n        now.dots[0] = b;", "pictureStays");
        at("int change(", "if (!now.hasShade(a) || !now.hasShade(b)) {\n            return UNKNOWN;\n        "
            + "}\n        if (a == b) {\n            return LATE;\n        }",
            "if (a == b) {\n            return LATE;\n        }\n        "
            + "if (!now.hasShade(a) || !now.hasShade(b)) {\n            return UNKNOWN;\n        }",
            "p11", "refusalOrder");
        at("int change(", "acts.remember(now);", "", "p11", "actsKinds", "p17");
        at("int move(", "!= NONE", "== 99", "p12", "moved", "ownCell", "cells");
        at("int move(", "now.shadeIn(row, column) != NONE",
            "now.shadeIn(row, column) != NONE && now.shadeIn(row, column) != shade", "ownCell", "moved",
            "p12");
        at("int move(", "!now.hasShade(shade) || ", "", "refusalOrder", "p12");
        at("int move(", "now.put(shade, row, column)", "now.put(shade, column, row)", "moved", "p12");
        at("int move(", "now.put(shade, row, column);",
            "now.put(shade, row, column);\n        now.dots[0] = shade;", "pictureStays");
        at("int move(", "acts.remember(now);", "", "p12", "actsKinds", "moved", "p17");
        at("int lay(", "b < 0", "b < -1", "p13", "laidApart");
        at("int lay(", "b < 0", "b < 1", "p13", "laidApart", "noneLeftOut");
        at("int lay(", "< now.shades", "< now.shades - 1", "noneLeftOut", "laidApart", "p13", "band");
        at("int lay(", "< now.shades", "<= now.shades", "noneLeftOut", "laidApart", "p13", "band");
        at("int lay(", "now.layWithin(b);", "now.layWithin(b);\n        now.dots[0] = 0;\n"
            + "        now.dots[1] = 0;", "pictureStays");
        at("int lay(", "acts.remember(now);", "", "p13", "actsKinds", "p17", "actsEach");
        at("int lay(", "return bothSides(now)", "return 0", "p13", "actsEach");
        at("int paint(", "|| !now.hasShade(shade)", "", "p14", "dotsFirst", "actsEach");
        at("int paint(", "return was", "return shade", "p14", "dotsFirst");
        at("int paint(", "acts.remember(now);", "", "p14", "actsKinds", "actsForgotten", "actsEach", "p17");
        at("int paint(", "acts.remember(now);",
            "if (now.dots[line * DOTS + dot] != shade) {\n            acts.remember(now);\n        }",
            "actsEach");
        at("int shift(", "!isShift(v)", "v < -1 || v > 3", "p15", "shift");
        at("int shift(", "return was", "return v", "p15", "shift");
        at("int shift(", "acts.remember(now);", "if (v != now.shift) {\n            acts.remember(now);\n"
            + "        }", "actsEach");
        at("int shift(", "acts.remember(now);", "", "p15", "actsKinds", "actsUndone", "p17");
        at("int lose(", "return now.lost >> pack & 1", "return 1", "p16", "lostFirst");
        at("int lose(", "now.loseOrFind(pack)", "now.lost |= 1 << pack", "p16", "lostFirst", "actsKinds");
        at("int lose(", "return UNKNOWN", "return BAD", "p16", "packs");
        at("int lose(", "acts.remember(now);", "", "p16", "actsKinds", "actsUndone", "calls");
        at("int lose(", "acts.remember(now);",
            "if ((now.lost >> pack & 1) == 0) {\n            acts.remember(now);\n        }", "actsKinds",
            "p17");
        at("int undo(", "acts.size : LATE", "acts.size + 1 : LATE", "p17", "actsUndone", "calls");
        at("int undo(", ": LATE", ": 0", "p17", "actsUndone", "actsForgotten");
        at("int undo(", "return", "text.length = 0;\n        return", "notUndone");
        at("int undo(", "return", "seen.size = 0;\n        return", "notUndone");
        at("int undo(", "return", "theSeed = 0;\n        return", "notUndone");
        at("void remember(", "size == MOST_ACTS", "size == MOST_ACTS - 1", "actsForgotten", "p17", "calls");
        at("void remember(", "first = (first + 1) % MOST_ACTS;", "", "actsForgotten");
        at("boolean takeBackInto(", "size--;", "size = 0;", "p17", "actsUndone", "actsForgotten");
        at("boolean takeBackInto(", "(first + size) % MOST_ACTS", "first", "p17", "actsUndone",
            "actsForgotten");
    }

    private void ofAsked() {
        at("int miss(", "set < 0", "set < -1", "p18");
        at("int miss(", "set >= SETS", "set > SETS", "p18", "refusedNothing");
        at("int miss(", "now.shift, set", "now.shift, set | now.lost", "p18");
        at("int judge(", "n < 1", "n < 0", "judgeCount", "p19");
        at("int judge(", "n < 1", "n < 2", "judgeCount", "p19");
        at("int judge(", "row < 0", "row < -1", "p19");
        at("int judge(", "row < 0", "row <= 0", "p19");
        at("int judge(", "row >= DOINGS_END[n]", "row > DOINGS_END[n]", "p19", "judgeFigures");
        at("int judge(", "DOINGS_END[n - 1 - place]", "DOINGS_END[place]", "judgeFigures", "judgePlace",
            "judgeAhead");
        at("int judge(", "return place", "return place + 1", "judgePlace", "judgeFigures", "p19");
        at("int judge(", "return NONE", "return n", "judgePlace", "judgeAhead", "p19", "none");
        at("int judge(", "trial.copy(now);", "", "judgeAhead", "judgePack", "p19");
        at("boolean goesWell(", "case 1: return second == 0 && ", "case 1: return ", "judgePack");
        at("boolean goesWell(", "case 2: return second == 0 && ", "case 2: return ", "judgeShift");
        at("boolean goesWell(", "case 4: return second == 0 && ", "case 4: return ", "judgeBlank");
        at("boolean goesWell(", "isDot(second, third) && ", "second < 4 && third < 5 && ", "judgeRight");
        at("boolean goesWell(", "<= 10 * second + third", "< 10 * second + third", "judgeMiss",
            "judgeDone");
        at("boolean goesWell(", "10 * second + third", "second + third", "judgeMiss", "judgeDone");
        at("boolean goesWell(", "default: return false", "default: return true", "judgeFigures",
            "judgePlace");
        at("boolean goesWell(", "case 5: return triedChange(second, third)",
            "case 5: return second != third", "judgeChange", "judgeDone");
        at("boolean triedPack(", "!isPack(pack)", "pack > 4", "judgePack", "judgePlace");
        at("boolean triedPack(", "trial.loseOrFind(pack);", "", "judgePack", "judgeAhead", "judgeDone",
            "judgeBlank", "judgeRight");
        at("boolean triedPack(", "trial.loseOrFind(pack);", "trial.lost |= 1 << pack;", "judgePack",
            "judgeAhead");
        at("boolean triedPack(", "trial.loseOrFind(pack);", "now.loseOrFind(pack);\n        "
            + "trial.loseOrFind(pack);", "nothingChanged", "judgeAhead");
        at("boolean triedShift(", "!isShift(v)", "v > 4", "judgeShift", "judgePlace");
        at("boolean triedShift(", "trial.shift = v;", "", "judgeShift", "judgeDone");
        at("boolean triedShift(", "trial.shift = v;", "now.shift = v;\n        trial.shift = v;",
            "nothingChanged");
        at("boolean comesOutRight(", "==", "!=", "judgeRight", "judgeDone");
        at("boolean comesOutRight(", "trial.shift, trial.lost", "trial.shift, now.lost", "judgeRight",
            "judgeAhead");
        at("boolean comesOutRight(", "trial.shift, trial.lost", "now.shift, trial.lost", "judgeDone");
        at("boolean comesOutBlank(", "== 1", "== 0", "judgeBlank", "judgeAhead", "judgePack");
        at("boolean triedChange(", "|| a == b", "", "judgeChange");
        at("boolean triedChange(", "!trial.hasShade(a) || ", "", "judgeChange");
        at("boolean triedChange(", "trial.swap(a, b);", "", "judgeChange", "judgeDone");
        at("boolean triedChange(", "trial.swap(a, b);", "trial.swap(a, b);\n        now.swap(a, b);",
            "nothingChanged");
        at("int bestChange(", "100 * a + b", "100 * b + a", "bestChange", "bestChangeLess", "p6");
        at("int bestChange(", "100 * a + b", "10 * a + b", "bestChange");
        at("int bestChange(", "sides < least", "sides <= least", "bestChangeLike", "bestChangeLess");
        at("int bestChange(", "int least = bothSides(now)", "int least = Integer.MAX_VALUE",
            "bestChangeLess", "bestChangeLike", "p6");
        at("int bestChange(", "int best = NONE", "int best = 0", "bestChangeLess", "bestChangeLike", "none",
            "p1");
        at("int bestChange(", "a < trial.shades", "a < 10", "bestChange");
        at("int bestChange(", "trial.swap(a, b);\n                if", "if", "bestChange");
        at("int bestChange(", "trial.copy(now)", "trial.copy(now);\n        now.swap(0, 1)",
            "nothingChanged");
        at("int bestShift(", "greatest < least", "greatest <= least", "bestShiftLike", "p1");
        at("int bestShift(", "v < SHIFTS", "v < SHIFTS - 1", "bestShift");
        at("int bestShift(", "int best = 0", "int best = 1", "bestShift", "bestShiftLike");
        at("int greatestMiss(", "Math.max(greatest, ", "(", "bestShift");
        at("int greatestMiss(", "int greatest = 0", "int greatest = 1", "bestShift");
        at("int greatestMiss(", "1 << pack", "1 << pack | now.lost", "bestShiftAside");
        at("int band(", "int b = 0", "int b = 1", "band", "bandNoShades", "p1");
        at("int band(", ">= now.shades", "> now.shades", "band", "bandNoShades");
        at("int band(", "b < MOST_SIDE", "b < MOST_SIDE - 1", "band");
    }

    private void ofChances() {
        at("int see(", "!isDot(line, dot)", "line < 0 || line > 3 || dot < 0 || dot > 4", "p20");
        at("int see(", "v < 0", "v < -1", "seenValue", "p20");
        at("int see(", "v < 0", "v < 1", "seenValue", "p20");
        at("int see(", "return UNKNOWN", "return BAD", "p20", "refusalOrder");
        at("int see(", "line * DOTS + dot", "line * DOTS", "p20");
        at("int see(", "line * DOTS + dot", "dot * DOTS + line", "p20");
        at("int see(", "return BAD", "return seen.size == 6 ? FULL : BAD", "refusalOrder", "p20");
        at("int see(", "seen.size : FULL", "seen.size - 1 : FULL", "p20", "seenSix");
        at("int unsee(", "return was", "return seen.size", "p21", "seenSix");
        at("int unsee(", "seen.size = 0;", "", "p21", "seenSix", "whichNothing");
        at("int which(", "int set = 0", "int set = 1", "whichAll", "whichBits", "whichNothing", "p22");
        at("int which(", "set < SETS", "set < SETS - 1", "whichBits", "whichNothing", "p22");
        at("int which(", "now.shift, set", "now.shift, set | now.lost", "seenLost");
        at("int which(", "1 << set", "1 << SETS - 1 - set", "whichBits", "whichAll", "p22");
        at("boolean isSo(", "return false", "return i > 0", "whichAll", "whichBits");
        at("boolean isSo(", "!= values[i]", "!= values[i] % 19", "seenValue");
        at("int share(", "!isPack(pack)", "pack < 0 || pack > 4", "p23", "refusalNumbers");
        at("int share(", "return fraction(sum, ORDERS, upper)", "return 1", "p23");
        at("int share(", "misses[lost] - misses[lost ^ bit]", "misses[lost ^ bit] - misses[lost]", "share",
            "fractionSigns", "p23");
        at("int share(", "(lost & bit) != 0", "(lost & bit) != 0 && (now.lost & bit) == 0",
            "shareAllLost");
        at("int chance(", "m < 0", "m < -1", "chanceOrLess", "p24");
        at("int chance(", "m < 0", "m < 1", "chanceTenths", "p24");
        at("int chance(", "misses[set] <= m", "misses[set] < m", "chanceOrLess", "chanceTenths", "p24");
        at("int chance(", "likelihood(set, x)", "likelihood(set ^ now.lost, x)", "chanceAside");
        at("int mean(", "!isTenths(x)", "x < 0 || x > 11", "mean", "p25");
        at("int mean(", "likelihood(set, x)", "likelihood(set ^ now.lost, x)", "mean");
        at("int mean(", "likelihood(set, x) * misses[set]", "likelihood(set, x)", "mean", "p25");
        at("boolean isTenths(", "x >= 0", "x >= -1", "chanceTenths", "mean", "p24", "p25");
        at("boolean isTenths(", "x <= TENTHS", "x < TENTHS", "chanceTenths", "mean", "p24", "p25");
        at("int likelihood(", "== 1 ?", "== 0 ?", "chanceTenths", "mean", "p24", "p25");
        at("int likelihood(", "pack < PACKS", "pack < PACKS - 1", "chanceTenths", "mean", "p24", "p25");
        at("int fraction(", "Math.abs(above)", "above", "fractionSigns", "share");
        at("int fraction(", "Math.max(1, commonDivisor(Math.abs(above), below))", "1", "fractionTerms",
            "fractionSigns", "share", "p23");
        at("int fraction(", "upper ? above / common : below", "upper ? Math.abs(above / common) : below",
            "fractionSigns");
        at("int fraction(", "upper ?", "!upper ?", "fractionSigns", "fractionTerms", "share");
        at("long seed(", "return was", "return v", "p26", "seedFirst");
        at("long seed(", "theSeed = v;", "theSeed = (int) v;", "p26", "seedFirst");
        at("private long theSeed", ";", " = 1;", "seedFirst", "p1", "p26");
        at("int drawn(", "m < 1", "m < 0", "drawnTimes", "p27");
        at("int drawn(", "m < 1", "m < 2", "drawnTimes", "drawnAdded", "p27");
        at("int drawn(", "i < m", "i < m - 1", "drawnTimes", "drawnAdded", "seedWraps", "p27");
        at("int drawn(", "6364136223846793005L", "6364136223846793003L", "seedWraps", "drawnDot", "p27");
        at("int drawn(", "1442695040888963407L", "1442695040888963409L", "seedWraps", "seedFirst");
        at("int drawn(", "theSeed * 6364136223846793005L", "theSeed % 1000003 * 6364136223846793005L",
            "seedWraps", "drawnDot");
        at("int drawn(", "(int) (theSeed >>> 33)", "(int) (theSeed >>> 34)", "drawnDot", "drawnAdded");
        at("int drawn(", "theSeed >>> 33", "theSeed >> 33", "drawnDot");
        at("int drawn(", "sum +=", "sum =", "drawnAdded", "drawnDot", "p27");
        at("int drawn(", "trial.copy(now);", "", "drawnAdded", "drawnChanges");
        at("int drawn(", "trial.paintBy", "now.paintBy", "drawnChanges");
        at("int drawn(", "trial.shift, trial.lost", "trial.shift, 15", "drawnLost", "drawnTimes");
        at("int drawn(", "trial.shift, trial.lost", "1, trial.lost", "drawnLost");
        at("void paintBy(", "v / DOTS % LINES * DOTS + v % DOTS", "v % (LINES * DOTS) / 4 + v % 4 * 4",
            "drawnDot");
        at("void paintBy(", "v >= 0", "v > 0", "drawnDot");
        at("void paintBy(", "v / (LINES * DOTS) % shades", "v / DOTS % shades", "drawnDot");
        at("void paintBy(", "v / (LINES * DOTS) % shades", "v / (LINES * DOTS) % 20", "drawnDot");
    }

    private void ofSlots() {
        at("int keep(", "return now.lost", "return slot", "p28", "slots", "sets");
        at("int keep(", "!isSlot(slot)", "slot < -1 || slot > 1", "p28", "slots");
        at("int again(", "return now.lost", "return slot", "p29", "p28", "slots");
        at("int again(", "acts.forgetAll();", "", "slotsNoActs", "p29");
        at("int again(", "acts.forgetAll();", "acts.forgetAll();\n        slots.filled = 0;", "p29",
            "slots");
        at("int again(", "acts.forgetAll();", "acts.forgetAll();\n        seen.size = 0;", "notUndone");
        at("int again(", "acts.forgetAll();", "acts.forgetAll();\n        text.length = 0;", "notUndone");
        at("int again(", "acts.forgetAll();", "acts.forgetAll();\n        theSeed = 0;", "notUndone");
        at("int again(", "return LATE", "acts.forgetAll();\n            return LATE", "p29",
            "refusedNothing");
        at("int again(", "!isSlot(slot)", "slot < 0 || slot > 2", "p29", "slots", "refusalOrder");
        at("void put(int slot", "1 << slot", "3", "slots", "p29", "p5kept");
        at("void put(int slot", "kept[slot].copy", "kept[0].copy", "slots", "p28", "slotsNoActs");
        at("boolean takeInto(", "kept[slot]", "kept[0]", "slots", "p28", "p29");
        at("boolean isSlot(", "slot >= 0", "slot >= -1", "p28", "p29", "refusedNothing");
        at("void copy(", "shift = from.shift;", "", "slots", "p17", "p29", "seenNow");
        at("void copy(", "lost = from.lost;", "", "slots", "p17", "p29");
        at("void copy(", "System.arraycopy(from.rowOf, 0, rowOf, 0, MOST_SHADES);", "", "slots", "p17",
            "p29");
        at("void copy(", "System.arraycopy(from.dots, 0, dots, 0, LINES * DOTS);", "", "slots", "p29",
            "actsForgotten");
    }

    private void ofTheText() {
        at("boolean add(int letter)", "letters[length] = letter;", "letters[0] = letter;", "p4", "p2");
        at("int readInto(", "int place = 0", "int place = 1", "faultPlace", "mapFigures", "noBlanks", "p2");
        at("int readInto(", "return place", "return length", "faultPlace", "faultLength", "noBlanks");
        at("int readInto(", "return place", "return place + 1", "faultPlace", "faultTaken",
            "faultFullRow", "faultNoCell", "faultTwenty");
        at("int readInto(", "length > 0 && ", "", "faultEnd", "p4", "p5late");
        at("int readInto(", "length % 3 == 0", "length % 3 != 1", "faultEnd", "p4", "p5late");
        at("int readInto(", "NONE : length", "NONE : length - 1", "faultEnd", "p4", "faultLength");
        at("int readInto(", "return length > 0", "return length > 3", "faultEnd", "mapShades", "p5late");
        at("boolean takes(", "letter == 'M'", "(letter == 'M' || letter == 'm')", "mapFigures");
        at("boolean takes(", "letter == 'M'", "(letter == 'M' || letter == ' ')", "noBlanks");
        at("boolean takes(", "letter == 'i' &&", "(letter == 'i' || letter == 'I') &&", "mapShades");
        at("boolean takes(", "letter == 'i' &&", "(letter == 'i' || letter == ' ') &&", "noBlanks");
        at("boolean takes(", " && state.hasRoom()", "", "faultTwenty", "faultNoCell", "p4");
        at("boolean tellRows(", "figure < 1", "figure < 0", "size", "mapFigures");
        at("boolean tellRows(", "figure < 1", "figure < 2", "size", "mapFigures");
        at("boolean tellRows(", "figure > MOST_SIDE", "figure > MOST_SIDE + 1", "size", "mapFigures");
        at("boolean tellColumns(", "figure < 1", "figure < 0", "size", "mapFigures");
        at("boolean tellColumns(", "figure > MOST_SIDE", "figure > MOST_SIDE + 1", "size", "mapFigures");
        at("boolean tellColumns(", "columns = figure", "rows = figure", "size", "mapFigures", "numbers");
        at("boolean hasRoom(", "shades < MOST_SHADES && ", "", "faultTwenty", "shades", "faultLength");
        at("boolean hasRoom(", " && shades < rows * columns", "", "faultNoCell", "p4");
        at("boolean hasRoom(", "shades < rows * columns", "shades <= rows * columns", "faultNoCell", "p4");
        at("boolean tellRow(", "row < 0", "row < -1", "mapShades");
        at("boolean tellRow(", "row >= rows", "row > rows", "mapShades", "faultPlace");
        at("boolean tellRow(", " || shadesInRow(row) >= columns", "", "faultFullRow");
        at("boolean tellRow(", "shadesInRow(row) >= columns", "shadesInRow(row) > columns", "faultFullRow");
        at("boolean tellRow(", "shadesInRow(row) >= columns", "shadesInRow(row) >= columns - 1",
            "faultFullRow", "faultNoCell");
        at("boolean tellColumn(", "column < 0", "column < -1", "mapShades");
        at("boolean tellColumn(", "column >= columns", "column > columns", "mapShades", "faultPlace");
        at("boolean tellColumn(", "shadeIn(rowOf[shades], column) != NONE", "false", "faultTaken", "cells",
            "mapShades");
        at("boolean tellColumn(", "shadeIn(rowOf[shades], column) != NONE",
            "shadeIn(rowOf[shades], column) != NONE\n                    "
            + "|| shades > 0 && columnOf[shades - 1] == column", "faultTaken");
    }

    private void ofTheState() {
        at("class State", "rows = 1", "rows = 2", "size", "p1");
        at("class State", "columns = 1", "columns = 2", "size", "p1");
        at("class State", "int shades", "int shades = 1", "shades", "p1");
        at("class State", "shift = 1", "shift = 0", "shift", "p1");
        at("class State", "int lost", "int lost = 1", "lostFirst", "p1");
        at("void renew(", "shift = 1", "shift = 0", "p5");
        at("void renew(", "lost = 0;", "", "p5");
        at("void renew(", "Arrays.fill(dots, 0)", "Arrays.fill(dots, 1)", "dotsFirst", "p5");
        at("class State", "dots = new int[LINES * DOTS];", "dots = {0, 0, 0, 0, 0, 0, 0, 0, 0, 0, 0, 0, 0, "
            + "0, 0, 1};", "dotsFirst");
        at("boolean hasShade(", "shade >= 0", "shade >= -1", "shades", "p7", "p11", "p14");
        at("boolean hasShade(", "shade < shades", "shade <= shades", "shades", "p7", "p11", "p12", "p14");
        at("boolean hasShade(", "shade < shades", "shade < shades - 1", "shades", "p7", "p14");
        at("boolean hasCell(", "row >= 0", "row >= -1", "numbers", "p8", "p12");
        at("boolean hasCell(", "row < rows", "row <= rows", "numbers", "p8", "p12", "p1");
        at("boolean hasCell(", "column >= 0", "column >= -1", "numbers", "p8", "p12");
        at("boolean hasCell(", "column < columns", "column <= columns", "numbers", "p8", "p12", "p1");
        at("int numbersOf(", "half == 0", "half == 1", "numbers", "p9");
        at("boolean isDot(", "line >= 0", "line >= -1", "picture", "p10", "p14", "p20");
        at("boolean isDot(", "line < LINES", "line <= LINES", "picture", "p10", "p14", "p20");
        at("boolean isDot(", "dot >= 0", "dot >= -1", "picture", "p10", "p14", "p20");
        at("boolean isDot(", "dot < DOTS", "dot <= DOTS", "picture", "p10", "p14", "p20");
        at("boolean isDot(", "dot < DOTS", "dot < DOTS - 1", "picture", "p10", "p14", "p20");
        at("boolean isPack(", "pack >= 0", "pack >= -1", "packs", "p16", "p23");
        at("boolean isPack(", "pack < PACKS", "pack <= PACKS", "packs", "p16", "p23", "judgePack");
        at("boolean isPack(", "pack < PACKS", "pack < PACKS - 1", "packs", "p16", "p23", "judgePack");
        at("boolean isShift(", "v >= 0", "v >= -1", "shift", "p15");
        at("boolean isShift(", "v < SHIFTS", "v <= SHIFTS", "shift", "p15", "judgeShift");
        at("boolean isShift(", "v < SHIFTS", "v < SHIFTS - 1", "shift", "p15", "judgeShift");
        at("int timesPainted(", "int place = 0", "int place = 1", "p7", "picture", "p5");
        at("int timesPainted(", "place < LINES * DOTS", "place < LINES * DOTS - 1", "p7", "picture", "p5");
        at("void swap(", "put(b, row, column);", "", "changed", "cells", "p11");
        at("void swap(", "put(b, row, column);", "put(b, row, column);\n                dots[0] = a;",
            "pictureStays");
        at("int cellsWithin(", "<= b", "< b", "laidApart", "noneLeftOut", "band");
        at("int cellsWithin(", "<= b", "<= b + 1", "laidApart", "noneLeftOut", "band", "bandNoShades");
        at("int cellsWithin(", "Math.abs(row - column)", "(row - column)", "laidApart", "band");
        at("void layWithin(", "<= b", "< b", "laidApart", "laidOrder");
        at("void layWithin(", "<= b", "<= b + 1", "laidOrder", "p13");
        at("void layWithin(", "together <= rows + columns - 2", "together < rows + columns - 2",
            "laidOrder");
        at("void layWithin(", "int column = together - row",
            "int column = together - (rows - 1 - row);\n                    row = rows - 1 - row",
            "laidOrder");
        at("void layWithin(", "hasCell(row, column)", "next < shades && hasCell(row, together - row)\n"
            + "                            && shadeIn(row, column) == NONE", "laidOrder");
    }

    private void ofGuesses() {
        at("int nearest(", "2 * sum + count - 1", "2 * sum + count", "guessLeast", "guessColumn",
            "allAlike");
        at("int nearest(", "2 * sum + count - 1", "2 * sum", "guessLeast", "guessColumn");
        at("int nearest(", "count == 0 ? NONE", "count == 0 ? 0", "guessNone", "guessColumn", "none", "p9");
        at("int nearest(", "(2 * sum + count - 1) / (2 * count)",
            "Math.min(18, (2 * sum + count - 1) / (2 * count))", "guessRange");
        at("int nearest(", "(2 * sum + count - 1) / (2 * count)",
            "Math.max(1, (2 * sum + count - 1) / (2 * count))", "guessRange", "guessLeast", "guessColumn");
        at("void take(State", "count(state.rowOf[shade], shade)",
            "count(state.rowOf[shade], shade * state.timesPainted(shade) / 8)", "allAlike");
        at("void take(State", "shade < state.shades", "shade < state.shades - 1", "guessLeast",
            "guessRange", "sides", "guessElsewhere");
        at("void take(State", "count(MOST_SIDE + state.columnOf[shade], shade)",
            "count(MOST_SIDE + state.rowOf[shade], shade)", "guessColumn", "sides", "p9",
            "guessElsewhere");
        at("int side(", "square(shade - of(half, state.numberIn(half, shade)))",
            "Math.abs(shade - of(half, state.numberIn(half, shade)))", "sides", "changed");
        at("int side(", "shade < state.shades", "shade < state.shades - 1", "sides");
        at("int side(", "int shade = 0", "int shade = 1", "sides");
        at("int side(", "of(half, state", "of(0, state", "sides");
        at("int side(", "of(half, state", "of(1, state", "sides");
        at("int numberIn(", "half == 0", "half == 1", "sides");
        at("int bothSides(", "side(state, 0) + guesses", "side(state, 1) + guesses", "p11", "changed");
        at("int bothSides(", "+ guesses.side(state, 1)", "+ guesses.side(state, 0)", "p11", "changed");
        at("int bothSides(", "guesses.take(state);", "", "p11", "changed");
        at("int sideOf(", "guesses.take(now);", "", "sides");
        at("int of(int half", "half * MOST_SIDE + number", "number", "guessColumn", "outOne", "p9");
        at("int nearest(", "return count == 0 ? NONE : (2 * sum + count - 1) / (2 * count)",
            "return count == 0 ? NONE : (2 * sum + count - 1) / (2 * count) / 2 * 2", "guessElsewhere",
            "guessLeast");
    }

    private void ofWhatComesOut() {
        at("int missBy(", "square(dots[place] - state.dots[place])",
            "Math.abs(dots[place] - state.dots[place])", "squares", "off", "judgeMiss");
        at("int missBy(", "int place = 0", "int place = 1", "squares");
        at("int missBy(", "place < LINES * DOTS", "place < LINES * DOTS - 1", "squares");
        at("int missBy(", "dots[place] - state.dots[place]", "dots[place]", "off", "squares", "neither");
        at("void send(", "came(lost, line)", "came(lost, (line + 1) % PACKS)", "packs", "outOne",
            "outBoth");
        at("void send(", "line + SHIFTS - shift", "line + shift", "packs", "halfOne", "outOne");
        at("void send(", "line + SHIFTS - shift", "Math.max(line - shift, 0)", "packs", "halfOne",
            "outBlank");
        at("void send(", "shift) % PACKS", "shift) % 3", "shiftZero", "packs", "halfOne");
        at("void send(", "rowsCame || columnsCame", "rowsCame && columnsCame", "guessesNotBlank",
            "outOne", "outBlank", "shiftZero");
        at("void send(", "rowsCame || columnsCame", "rowsCame", "outOne", "outBlank", "guessesNotBlank");
        at("void send(", "blank |= 1 << line;", "blank |= 8 >> line;", "outBlank", "sets");
        at("void fill(", "!state.hasShade(shade)", "!state.hasShade(shade) && line < 0", "noShades");
        at("void fill(", "dots[place] = 0", "dots[place] = 1", "noShades", "p1");
        at("void fill(", "dots[place] = 0;", "", "noShades");
        at("void fill(", "rowsCame && columnsCame", "rowsCame || columnsCame", "outOne", "packs", "p10");
        at("void fill(", "rowsCame && columnsCame", "rowsCame && !rowsCame", "outBoth", "drawnLost");
        at("void fill(", "guesses.of(0, state.rowOf[shade])", "guesses.of(1, state.columnOf[shade])",
            "outOne", "packs", "outBoth", "guessesNotBlank");
        at("void fillBlank(", "up >= 0 && isBlank(up)", "up > 0 && isBlank(0)", "upDown", "blankNever");
        at("void fillBlank(", "down < LINES && isBlank(down)", "down < 3", "upDown", "halfCut");
        at("void fillBlank(", "int up = line - 1", "int up = Math.min(line - 1, 0)", "upDown");
        at("void fillBlank(", "while (up >= 0 && isBlank(up))", "while (up > 0 && isBlank(0))", "upDown");
        at("void fillBlank(", "while (up >= 0 && isBlank(up)) {\n                up--;\n            }", "",
            "upDown", "blankNever");
        at("int between(", "return 0", "return 1", "neither");
        at("int between(", "dots[down * DOTS + dot];", "0;", "oneThereIs", "upDown");
        at("int between(", "return dots[up * DOTS + dot];", "return 0;", "oneThereIs", "upDown");
        at("int between(", "+ dots[down * DOTS + dot]) / 2", "+ dots[down * DOTS + dot] + 1) / 2",
            "halfCut", "blankNever");
        at("int between(", "+ dots[down * DOTS + dot]) / 2", ") / 1", "halfCut", "upDown");
    }
}
