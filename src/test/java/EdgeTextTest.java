import java.util.function.Supplier;

/** Promises 1 to 9, and in the Terms THE FIRE, THE TAPE and the FAULTS: each sentence at its edge. */
public final class EdgeTextTest {
    private static final Edge edge = new Edge("EdgeTextTest");

    public static void main(String[] args) {
        newObject();
        everyCallOfANewObject();
        feeding();
        feedingFull();
        ending();
        textOfNothing();
        textOfAFullTape();
        textIsEmptyThen();
        faultLeavesWhatWasTold();
        tokensAsLongAsMayBe();
        numbersOfOneOrTwoFigures();
        bytesThatAreNoToken();
        endOfTheText();
        namesThatBeginNoLine();
        boundsOfFire();
        boundsOfHeat();
        boundsOfWood();
        boundsOfPotatoes();
        boundsOfMemo();
        toldTwice();
        theSeventh();
        thereIsNot();
        theFirstMet();
        takenTellsAll();
        faultOfTheLatest();
        asking();
        edge.close();
    }

    private static void taken(String text, int lines) {
        EmberSpuds fire = new EmberSpuds();
        edge.is("'" + text + "'", Due.tell(fire, text), lines);
        edge.is("fault() of '" + text + "'", fire.fault(), 0);
    }

    /** The text has a fault, and nothing but the tape and fault() is otherwise than before. */
    private static void fault(String text, int kind, int place) {
        EmberSpuds fire = new EmberSpuds();
        edge.is("'" + text + "'", Due.tell(fire, text), -10 - place);
        edge.is("fault() of '" + text + "'", fire.fault(), kind);
        edge.is("the tape behind '" + text + "'", fire.count(6), 0);
        edge.is("rule(0) behind '" + text + "'", fire.rule(0), 3);
        edge.is("rule(1) behind '" + text + "'", fire.rule(1), 1);
        edge.is("rule(2) behind '" + text + "'", fire.rule(2), 1);
        edge.is("rule(3) behind '" + text + "'", fire.rule(3), 0);
        edge.is("rule(5) behind '" + text + "'", fire.rule(5), 0);
        edge.is("all heat behind '" + text + "'", fire.count(8), 0);
    }

    private static void newObject() {
        edge.sentence("1 Three CELLS, cold; SHEETS of nothing");
        EmberSpuds fire = new EmberSpuds();
        edge.is("rule(0)", fire.rule(0), 3);
        edge.is("heat(8), the last", fire.heat(8), 0);
        edge.is("heat(9)", fire.heat(9), -1);
        edge.is("count(8)", fire.count(8), 0);
        edge.is("count(7)", fire.count(7), -4);
        for (int k = 0; k < 4; k++) {
            edge.is("lay(" + k + ", 0, 0): NULL", fire.lay(k, 0, 0), -11);
        }
        edge.sentence("Terms: FALL, RIM 1, 1 at first; ROUND 0; RAKED none");
        int[] rules = {3, 1, 1, 0, 0, 0, 0};
        for (int what = 0; what < rules.length; what++) {
            edge.is("rule(" + what + ")", fire.rule(what), rules[what]);
        }
    }

    private static void everyCallOfANewObject() {
        edge.sentence("1 a new object is empty: what each call answers then");
        Supplier<EmberSpuds> none = EmberSpuds::new;
        edge.leaves("text()", none, EmberSpuds::text, 0);
        edge.leaves("fault()", none, EmberSpuds::fault, 0);
        edge.leaves("wood(0, 0)", none, f -> f.wood(0, 0), -1);
        edge.leaves("spud(0, 0)", none, f -> f.spud(0, 0), -1);
        edge.leaves("dig(0, 0)", none, f -> f.dig(0, 0), -1);
        edge.leaves("turn(0)", none, f -> f.turn(0), -1);
        edge.leaves("wrap(0, 0)", none, f -> f.wrap(0, 0), -1);
        edge.leaves("memo(0, 0)", none, f -> f.memo(0, 0), -1);
        edge.leaves("rake(0, false)", none, f -> f.rake(0, false), 0);
        edge.leaves("go(0)", none, f -> f.go(0), 0);
        edge.leaves("ahead(0, 0, 0)", none, f -> f.ahead(0, 0, 0), -1);
        edge.leaves("later(0, 60)", none, f -> f.later(0, 60), 0);
        edge.leaves("when(0, 2)", none, f -> f.when(0, 2), -1);
        edge.leaves("places(20, 0)", none, f -> f.places(20, 0), 0);
        edge.leaves("places(20, 10)", none, f -> f.places(20, 10), -1);
        edge.leaves("flip(0, 1)", none, f -> f.flip(0, 1), -1);
        edge.leaves("least(0, 1)", none, f -> f.least(0, 1), -1);
        edge.leaves("best(0)", none, f -> f.best(0), 0);
        edge.leaves("best(1)", none, f -> f.best(1), 0);
        edge.leaves("forget(0)", none, f -> f.forget(0), 0);
        edge.leaves("forget(1)", none, f -> f.forget(1), -1);
        edge.leaves("fits(0)", none, f -> f.fits(0), 100);
        edge.leaves("lies(0, 0, 0)", none, f -> f.lies(0, 0, 0), -1);
        edge.leaves("next(0)", none, f -> f.next(0), -4);
        edge.leaves("takes(0)", none, f -> f.takes(0), -4);
        edge.leaves("morning(0)", none, f -> f.morning(0), 0);
        edge.leaves("drift(0, 1, 0)", none, f -> f.drift(0, 1, 0), -2);
        edge.leaves("back(0)", none, f -> f.back(0), -2);
        edge.leaves("torn()", none, EmberSpuds::torn, 0);
        edge.leaves("end(0)", none, f -> f.end(0), 0);
        edge.leaves("end(1)", none, f -> f.end(1), -1);
    }

    private static void feeding() {
        edge.sentence("2 A byte (0 to 127) comes behind THE TAPE: how many it has. BAD");
        edge.is("feed(0)", new EmberSpuds().feed(0), 1);
        edge.is("feed(127)", new EmberSpuds().feed(127), 1);
        int[] noBytes = {-1, 128, 255, 256, 256 + 'f', Integer.MIN_VALUE, Integer.MAX_VALUE};
        for (int c : noBytes) {
            edge.leaves("feed(" + c + ")", EmberSpuds::new, f -> f.feed(c), -1);
            edge.leaves("feed(" + c + ") behind bytes", Edge::rich, f -> f.feed(c), -1);
        }
        EmberSpuds fire = new EmberSpuds();
        Due.feedAll(fire, "fire 5 1 ");
        edge.is("feed('2') behind", fire.feed('2'), 10);
        edge.is("feed(';') behind", fire.feed(';'), 11);
        edge.is("text()", fire.text(), 1);
        edge.is("rule(2)", fire.rule(2), 2);
    }

    /** 160 bytes, the last of which ends a line. */
    private static final String FULL_TAPE = "fire 8 0 9;" + " ".repeat(136) + "heat7 0 9 99;";

    private static EmberSpuds fed(String text) {
        EmberSpuds fire = new EmberSpuds();
        Due.feedAll(fire, text);
        return fire;
    }

    private static void feedingFull() {
        edge.sentence("2 FULL: more than 160");
        edge.is("the length of the test's own text", FULL_TAPE.length(), 160);
        EmberSpuds fire = fed(FULL_TAPE.substring(0, 159));
        edge.is("count(6)", fire.count(6), 159);
        edge.is("the 160th", fire.feed(FULL_TAPE.charAt(159)), 160);
        edge.is("the 161st", fire.feed(' '), -3);
        edge.is("the 161st again", fire.feed(0), -3);
        edge.is("a number that is none: BAD first", fire.feed(128), -1);
        edge.is("count(6)", fire.count(6), 160);
        edge.leaves("feed('?') on a full tape", () -> fed(FULL_TAPE), f -> f.feed('?'), -3);
        edge.is("end(159)", fire.end(159), 160);
        edge.is("there is room for one", fire.feed(';'), 160);
        edge.is("and for no other", fire.feed(';'), -3);
        edge.is("text()", fire.text(), 2);
        edge.is("heat(23)", fire.heat(23), 99);
        edge.is("all room again", fire.feed(' '), 1);
    }

    private static void ending() {
        edge.sentence("3 THE TAPE keeps its first n bytes: how many it had. BAD");
        edge.leaves("end(0) of none", EmberSpuds::new, f -> f.end(0), 0);
        edge.leaves("end(1) of none", EmberSpuds::new, f -> f.end(1), -1);
        edge.leaves("end(-1) of none", EmberSpuds::new, f -> f.end(-1), -1);
        Supplier<EmberSpuds> eleven = () -> fed("fire 4 5 6;");
        edge.leaves("end(11), all", eleven, f -> f.end(11), 11);
        edge.leaves("end(12)", eleven, f -> f.end(12), -1);
        edge.leaves("end(-1)", eleven, f -> f.end(-1), -1);
        edge.leaves("end(160)", eleven, f -> f.end(160), -1);
        edge.leaves("end(MIN)", eleven, f -> f.end(Integer.MIN_VALUE), -1);
        edge.leaves("end(160) of a full tape", () -> fed(FULL_TAPE), f -> f.end(160), 160);
        edge.leaves("end(161) of a full tape", () -> fed(FULL_TAPE), f -> f.end(161), -1);
        EmberSpuds fire = eleven.get();
        edge.is("end(10)", fire.end(10), 11);
        edge.is("end(11) of 10", fire.end(11), -1);
        edge.is("text() lacks the last", fire.text(), -20);
        fire = fed("fire 4 5 6;?");
        edge.is("end(11)", fire.end(11), 12);
        edge.is("text() of the first 11", fire.text(), 1);
        edge.is("rule(2)", fire.rule(2), 6);
        fire = fed("???");
        edge.is("end(0)", fire.end(0), 3);
        edge.is("count(6)", fire.count(6), 0);
        edge.is("text() of none", fire.text(), 0);
    }

    private static void textOfNothing() {
        edge.sentence("4 THE TAPE tells all: how many lines (text: { line }, none too)");
        taken("", 0);
        taken(" ", 0);
        taken(" ".repeat(160), 0);
        taken("out 1 bare;", 1);
        EmberSpuds fire = Edge.rich();
        fire.end(0);
        edge.is("text() of none", fire.text(), 0);
        edge.is("tells all: as a new object, but for the SHEETS and torn()", fire.torn(), 3);
        int[] rules = {3, 1, 1, 0, 0, 0, 0};
        for (int what = 0; what < rules.length; what++) {
            edge.is("rule(" + what + ")", fire.rule(what), rules[what]);
        }
        int[] counts = {0, 0, 0, 0, 0, 0, 0, 5, 0};
        for (int what = 0; what < counts.length; what++) {
            edge.is("count(" + what + ")", fire.count(what), counts[what]);
        }
    }

    private static void textOfAFullTape() {
        edge.sentence("THE TAPE has 160 bytes, places from 0");
        taken(FULL_TAPE, 2);
        taken("memo0 0;memo1 0;" + "out1bare;".repeat(6) + " ".repeat(90), 8);
        fault(FULL_TAPE.substring(0, 159) + "?", 1, 159);
        fault(FULL_TAPE.substring(0, 159) + "1", 1, 157);
        fault(FULL_TAPE.substring(0, 159) + " ", 2, 160);
        fault("?" + FULL_TAPE.substring(1), 1, 0);
        fault("heat 3 1 1 1;" + " ".repeat(147), 6, 160);
        fault("a".repeat(160), 2, 0);
        fault("0".repeat(160), 1, 0);
        fault(";".repeat(160), 2, 0);
    }

    private static void textIsEmptyThen() {
        edge.sentence("4 THE TAPE (empty then)");
        String[] texts = {"", "fire 4 1 1;", "?", "fire", "memo 0 0;"};
        for (String text : texts) {
            EmberSpuds fire = fed(text);
            fire.text();
            edge.is("count(6) behind '" + text + "'", fire.count(6), 0);
            edge.is("end(1) behind '" + text + "'", fire.end(1), -1);
            edge.is("feed(32) behind '" + text + "'", fire.feed(32), 1);
            edge.is("text() behind '" + text + "'", fire.text(), 0);
        }
    }

    private static EmberSpuds richOf(String text) {
        EmberSpuds fire = Edge.rich();
        fire.end(0);
        Due.feedAll(fire, text);
        return fire;
    }

    /** Both objects have met a fault of the same kind, one of them behind many lines. */
    private static void faultLeavesWhatWasTold() {
        edge.sentence("4 -10 less the place of its FAULT: that which was told stays");
        String[][] both = {
            {"?", "fire 3 0 0;heat 0 1 1 1;wood 0 1 1;spud 1 bare 0;memo 0 0;?"},
            {";", "fire 3 0 0;heat 0 1 1 1;wood 0 1 1;spud 1 bare 0;memo 0 0"},
            {"fire 2", "fire 3 0 0;heat 0 1 1 1;wood 0 1 1;spud 1 bare 0;memo 0 8;"},
            {"fire 3 0 0;fire", "fire 3 0 0;heat 0 1 1 1;wood 0 1 1;spud 1 bare 0;memo 0 0;memo 0 0;"},
            {"wood 0 1 1;".repeat(7), "memo 0 0;heat 0 1 1 1;" + "out1bare;".repeat(7)},
            {"memo 0 0;", "fire 3 0 0;heat 0 1 1 1;wood 0 1 1;spud 1 bare 0;memo 0 3;"}};
        for (String[] pair : both) {
            EmberSpuds shortly = richOf(pair[0]);
            EmberSpuds atLength = richOf(pair[1]);
            shortly.text();
            edge.is("a fault is met in '" + pair[1] + "'", atLength.text() <= -10 ? 1 : 0, 1);
            edge.is("all else stays behind '" + pair[1] + "'",
                    Edge.whole(shortly).equals(Edge.whole(atLength)) ? 1 : 0, 1);
        }
        EmberSpuds fire = richOf("fire 8 9 9;?");
        EmberSpuds still = richOf("");
        edge.is("text()", fire.text(), -21);
        for (int what = 0; what < 7; what++) {
            edge.is("rule(" + what + ")", fire.rule(what), still.rule(what));
        }
        edge.is("IMAGES", fire.count(5), 2);
        edge.is("FELT", fire.count(4), 2);
    }

    private static void tokensAsLongAsMayBe() {
        edge.sentence("TOKENS, each as long as may be, blanks (32) between");
        taken("fire3 1 1;heat0 1 1 1;out1bare;", 3);
        taken("  fire   3   1   1   ;  out  1  bare ; ", 2);
        taken("spud1bare0;memo0 0;", 2);
        fault("firefire 3 1 1;", 2, 0);
        fault("fire 31 1;", 3, 5);
        fault("fi re 3 1 1;", 2, 0);
        fault("out 1 ba re;", 2, 6);
        fault("out 1bareclay;", 2, 5);
        fault("fire 3 1 1;;", 2, 11);
        fault(";;", 2, 0);
    }

    private static void numbersOfOneOrTwoFigures() {
        edge.sentence("NUMBERS (1 or 2 figures); 1 a NUMBER that is too long (its first byte)");
        taken("heat 0 0 9 99;", 1);
        taken("heat 00 00 09 99;", 1);
        fault("heat 000 0 0 0;", 1, 5);
        fault("heat 0 100 0 0;", 1, 7);
        fault("heat 0 0 0 001;", 1, 11);
        fault("heat 0 0 0 99999999999;", 1, 11);
        fault("out 001 bare;", 1, 4);
        fault("spud 1 bare 012;", 1, 12);
        fault("  123", 1, 2);
        fault("out 1 123;", 1, 6);
        fault("out 1 bare 123", 1, 11);
    }

    private static void bytesThatAreNoToken() {
        edge.sentence("1 no TOKEN");
        for (int c = 0; c < 128; c++) {
            boolean isName = c >= 'a' && c <= 'z';
            boolean isNumber = c >= '0' && c <= '9';
            if (c == ' ') {
                taken("" + (char) c, 0);
            } else if (isName || isNumber || c == ';') {
                fault("" + (char) c, 2, 0);
            } else {
                fault("" + (char) c, 1, 0);
                fault("out 1 bare" + (char) c, 1, 10);
                fault("out 1 bare; " + (char) c + ";", 1, 12);
            }
        }
    }

    private static void endOfTheText() {
        edge.sentence("2 a TOKEN that can not stand there (.. or the end: the length)");
        String[] lines = {"fire 3 1 1;", "heat 0 1 1 1;", "wood 0 1 1;", "spud 1 bare 0;", "out 1 bare;", "memo 0 0;"};
        for (String line : lines) {
            String head = line.substring(0, line.indexOf(' '));
            fault(head, 2, head.length());
            for (int i = head.length(); i < line.length(); i++) {
                String cut = line.substring(0, i);
                boolean isCutName = line.charAt(i) >= 'a' && line.charAt(i) <= 'z' && !cut.endsWith(" ");
                fault(cut, 2, isCutName ? cut.lastIndexOf(' ') + 1 : i);
                fault(cut + "  ", 2, isCutName ? cut.lastIndexOf(' ') + 1 : i + 2);
            }
        }
    }

    private static void namesThatBeginNoLine() {
        edge.sentence("2 (a NAME that begins no line, is no W)");
        String[] names = {"fir", "fires", "hea", "heats", "woo", "woods", "spu", "spuds", "ou", "outs", "mem", "memos",
            "bare", "clay", "foil", "a", "z"};
        for (String name : names) {
            fault(name + " 0 0 0;", 2, 0);
            fault("out 1 bare;" + name, 2, 11);
        }
        String[] wraps = {"bar", "bares", "cla", "clays", "foi", "foils", "fire", "out", "w", "7", ";"};
        for (String wrap : wraps) {
            fault("out 1 " + wrap + ";", 2, 6);
            fault("spud 1 " + wrap + " 0;", 2, 7);
        }
        fault("fire fire 1 1;", 2, 5);
        fault("fire ; 1 1;", 2, 5);
        fault("heat 0 1 1 bare;", 2, 11);
        fault("memo bare 0;", 2, 5);
        fault("wood 0 1 1 1;", 2, 11);
        fault("out 1 bare 0;", 2, 11);
        fault("spud 1 bare;", 2, 11);
    }

    /** A number of a text of so many lines: both bounds are taken, what is past them is a fault. */
    private static void number(int lines, String before, int low, int high, String behind) {
        taken(before + low + behind, lines);
        taken(before + high + behind, lines);
        if (low > 0) {
            fault(before + (low - 1) + behind, 3, before.length());
        }
        if (high < 99) {
            fault(before + (high + 1) + behind, 3, before.length());
            fault(before + 99 + behind, 3, before.length());
        } else {
            fault(before + 100 + behind, 1, before.length());
        }
    }

    private static void boundsOfFire() {
        edge.sentence("CELLS (3 to 8), FALL, RIM (0 to 9); 3 a NUMBER out of its bounds");
        number(1, "fire ", 3, 8, " 1 1;");
        number(1, "fire 3 ", 0, 9, " 1;");
        number(1, "fire 3 1 ", 0, 9, ";");
    }

    private static void boundsOfHeat() {
        edge.sentence("heat: a CELL (0 to 7), HEAT (0 to 99) of its three PLACES, the top one first");
        number(2, "heat ", 0, 7, " 1 1 1;fire 8 0 0;");
        number(1, "heat 0 ", 0, 99, " 1 1;");
        number(1, "heat 0 1 ", 0, 99, " 1;");
        number(1, "heat 0 1 1 ", 0, 99, ";");
        EmberSpuds fire = Due.told("heat 2 7 8 9;");
        edge.is("heat(5)", fire.heat(5), 0);
        edge.is("heat(6)", fire.heat(6), 7);
        edge.is("heat(7)", fire.heat(7), 8);
        edge.is("heat(8)", fire.heat(8), 9);
    }

    private static void boundsOfWood() {
        edge.sentence("WOOD: a CELL, an AMOUNT (1 to 99), ROUNDS (1 to 9)");
        number(2, "wood ", 0, 7, " 1 1;fire 8 0 0;");
        number(1, "wood 0 ", 1, 99, " 1;");
        number(1, "wood 0 1 ", 1, 9, ";");
    }

    private static void boundsOfPotatoes() {
        edge.sentence("a SIZE (1 to 9), PLACE (0 to 23)");
        number(1, "spud ", 1, 9, " bare 0;");
        number(2, "spud 1 clay ", 0, 23, ";fire 8 0 0;");
        number(1, "out ", 1, 9, " foil;");
    }

    private static void boundsOfMemo() {
        edge.sentence("memo: a POTATO (0 to 5), the CELL that is REMEMBERED");
        number(3, "fire 8 0 0;out 1 bare;memo 0 ", 0, 7, ";");
        number(7, "out 1 bare;".repeat(6) + "memo ", 0, 5, " 0;");
    }

    private static void toldTwice() {
        edge.sentence("4 fire for the second time (its NAME)");
        taken("out 1 bare;fire 3 1 1;", 2);
        fault("fire 3 1 1;fire 3 1 1;", 4, 11);
        fault("fire 3 1 1; fire", 4, 12);
        edge.sentence("4 heat of a CELL told already (it)");
        taken("heat 0 1 1 1;heat 1 1 1 1;heat 2 1 1 1;", 3);
        for (int cell = 0; cell < 8; cell++) {
            fault("fire 8 0 0;heat " + cell + " 0 0 0;heat " + cell + " 0 0 0;", 4, 29);
            fault("heat " + cell + " 0 0 0;heat 0" + cell, 4, 18);
        }
        edge.sentence("4 memo of a POTATO told already (it)");
        taken("out 1 bare;out 1 bare;memo 1 0;memo 0 0;", 4);
        for (int p = 0; p < 6; p++) {
            fault("memo " + p + " 0;memo " + p + " 1;", 4, 14);
        }
        edge.sentence("4 a PLACE in which there is a POTATO already (it)");
        taken("spud 1 bare 0;spud 1 bare 1;out 1 bare;out 1 bare;", 4);
        for (int x = 0; x < 10; x++) {
            fault("spud 1 bare " + x + ";spud 2 clay " + x + ";", 4, 26);
        }
        fault("spud 1 bare 23;spud 2 clay 23;", 4, 27);
        fault("spud 1 bare 4;out 1 clay;spud 1 foil 04", 4, 37);
        edge.sentence("wood on a CELL is told as often as there is room");
        taken("wood 0 1 1;wood 0 1 1;", 2);
    }

    private static void theSeventh() {
        edge.sentence("5 the 7th wood (its NAME)");
        String wood = "wood 0 1 1;";
        taken(wood.repeat(6), 6);
        fault(wood.repeat(7), 5, 66);
        fault(wood.repeat(6) + "wood", 5, 66);
        fault(wood.repeat(6) + "  wood 9", 5, 68);
        taken(wood.repeat(6) + "out 1 bare;", 7);
        edge.sentence("5 the 7th POTATO (spud, out: its NAME)");
        String out = "out 1 bare;";
        String spuds = "spud 1 bare 0;spud 1 bare 1;spud 1 bare 2;spud 1 bare 3;spud 1 bare 4;spud 1 bare 5;";
        taken(out.repeat(6), 6);
        taken(spuds, 6);
        taken("spud 1 bare 0;" + out.repeat(5), 6);
        fault(out.repeat(7), 5, 66);
        fault(out.repeat(6) + "out", 5, 66);
        fault(out.repeat(6) + "spud", 5, 66);
        fault(spuds + "spud 1 bare 6;", 5, 84);
        fault(spuds + "out 1 bare;", 5, 84);
        taken(out.repeat(6) + wood.repeat(6), 12);
    }

    private static void thereIsNot() {
        edge.sentence("Behind all (the length): 6 a CELL, a PLACE, a POTATO that there is not");
        for (int cells = 3; cells <= 8; cells++) {
            String fire = "fire " + cells + " 0 0;";
            taken(fire + "heat " + (cells - 1) + " 1 1 1;", 2);
            taken(fire + "wood " + (cells - 1) + " 1 1;", 2);
            taken(fire + "out 1 bare;memo 0 " + (cells - 1) + ";", 3);
            taken(fire + "spud 1 bare " + (3 * cells - 1) + ";", 2);
            taken("heat " + (cells - 1) + " 1 1 1;" + fire, 2);
            if (cells < 8) {
                fault(fire + "heat " + cells + " 1 1 1;", 6, 24);
                fault(fire + "wood " + cells + " 1 1;", 6, 22);
                fault(fire + "out 1 bare;memo 0 " + cells + ";", 6, 31);
                String spud = "spud 1 bare " + 3 * cells + ";";
                fault(fire + spud, 6, 11 + spud.length());
                fault("heat " + cells + " 1 1 1; " + fire + " ", 6, 26);
            }
        }
        for (int spuds = 0; spuds <= 6; spuds++) {
            String all = "out 1 bare;".repeat(spuds);
            if (spuds > 0) {
                taken(all + "memo " + (spuds - 1) + " 0;", spuds + 1);
                taken("memo " + (spuds - 1) + " 0;" + all, spuds + 1);
            }
            if (spuds < 6) {
                fault(all + "memo " + spuds + " 0;", 6, 11 * spuds + 9);
                fault("memo " + spuds + " 0;" + all + " ", 6, 11 * spuds + 10);
            }
        }
    }

    private static void theFirstMet() {
        edge.sentence("FAULTS, the first met as it is read (a TOKEN is read when the one before has been taken)");
        fault("fire 2 ?", 3, 5);
        fault("fire 3 ? 2;", 1, 7);
        fault("fire 3 99 999;", 3, 7);
        fault("bare?", 2, 0);
        fault("fire 3 1 1;fire?", 4, 11);
        fault("heat 0 1 1 1;heat 0?", 4, 18);
        fault("heat 0 1 1 1;heat 8 1 1 1;", 3, 18);
        fault("memo 0 0;memo 0?", 4, 14);
        fault("spud 1 bare 0;spud 0 bare 0;", 3, 19);
        fault("spud 1 bare 0;spud 1 bare 0?", 4, 26);
        fault("wood 0 1 1;".repeat(6) + "wood?", 5, 66);
        fault("wood 0 1 1;".repeat(6) + "wood1111", 5, 66);
        fault("out 1 bare;".repeat(6) + "?", 1, 66);
        fault("heat 7 1 1 1;?", 1, 13);
        fault("heat 7 1 1 1;fire 2", 3, 18);
        fault("memo 5 7;spud 1 bare 23;;", 2, 24);
        fault("heat 7 1 1 1;heat 7", 4, 18);
        fault("spud 1 bare 23;spud 1 bare 23;", 4, 27);
    }

    private static void takenTellsAll() {
        edge.sentence("A text that is taken tells all, in place of what there was; nothing is RAKED, FELT; IMAGES are gone");
        EmberSpuds fire = richOf("fire 5 0 9;");
        edge.is("text()", fire.text(), 1);
        int[] rules = {5, 0, 9, 0, 0, 0, 0};
        for (int what = 0; what < rules.length; what++) {
            edge.is("rule(" + what + ")", fire.rule(what), rules[what]);
        }
        edge.is("all heat", fire.count(8), 0);
        edge.is("FELT", fire.count(4), 0);
        edge.is("IMAGES", fire.count(5), 0);
        edge.is("back(0)", fire.back(0), -2);
        edge.is("back(1)", fire.back(1), -2);
        edge.is("keep(0): there was none", fire.keep(0), 0);
        edge.is("fits(0)", fire.fits(0), 100);
        edge.is("the SHEETS stay", fire.count(7), 5);
        edge.is("torn() stays", fire.torn(), 3);
        EmberSpuds fewer = Due.told("fire 8 0 0;heat 7 9 9 9;spud 1 bare 23;");
        edge.is("fewer cells", Due.tell(fewer, "fire 3 0 0;"), 1);
        edge.is("heat(9)", fewer.heat(9), -1);
        edge.is("more cells", Due.tell(fewer, "fire 8 0 0;"), 1);
        edge.is("the last is cold", fewer.heat(23), 0);
    }

    private static void faultOfTheLatest() {
        edge.sentence("5 The FAULT of the latest text(); 0");
        EmberSpuds fire = new EmberSpuds();
        edge.is("at first", fire.fault(), 0);
        String[] texts = {"?", ";", "fire 2", "fire 3 1 1;fire", "wood 0 1 1;".repeat(7), "memo 0 0;"};
        for (int kind = 1; kind <= 6; kind++) {
            Due.tell(fire, texts[kind - 1]);
            edge.is("of '" + texts[kind - 1] + "'", fire.fault(), kind);
            fire.feed(128);
            fire.add(0, 0);
            fire.sheet(0, 0, -1);
            fire.go(1);
            edge.is("it stays", fire.fault(), kind);
        }
        edge.is("text() of none", fire.text(), 0);
        edge.is("gone", fire.fault(), 0);
    }

    private static void asking() {
        edge.sentence("6, 7 HEAT of a PLACE, for each number of CELLS (3 to 8)");
        for (int cells = 3; cells <= 8; cells++) {
            EmberSpuds fire = Due.told("fire " + cells + " 1 1;heat " + (cells - 1) + " 1 2 3;");
            edge.is("rule(0)", fire.rule(0), cells);
            edge.is("the last place", fire.heat(3 * cells - 1), 3);
            edge.is("behind the last place", fire.heat(3 * cells), -1);
            edge.is("rake the last place", fire.rake(3 * cells - 1, true), 0);
            edge.is("RAKED (bits)", fire.rule(6), 1 << 3 * cells - 1);
            edge.is("rake behind it", fire.rake(3 * cells, true), -1);
            edge.is("RAKED (bits)", fire.rule(6), 1 << 3 * cells - 1);
        }
        edge.sentence("8 Of WOOD i .. BAD: there is no such");
        EmberSpuds fire = Due.told("wood 0 1 1;wood 2 99 9;");
        edge.is("wood(1, 1)", fire.wood(1, 1), 99);
        edge.is("wood(2, 1)", fire.wood(2, 1), -1);
        fire.go(1);
        edge.is("wood(0, 1) is the second now", fire.wood(0, 1), 99);
        edge.is("wood(1, 1)", fire.wood(1, 1), -1);
        fire.go(8);
        edge.is("wood(0, 1)", fire.wood(0, 1), -1);
        edge.sentence("9 PLACE (NONE: OUT), the CELL that is REMEMBERED (NONE)");
        EmberSpuds spuds = Due.told("spud 9 foil 8;out 1 bare;memo 0 2;");
        edge.is("spud(0, 2)", spuds.spud(0, 2), 8);
        edge.is("spud(1, 2)", spuds.spud(1, 2), -4);
        edge.is("spud(0, 9)", spuds.spud(0, 9), 2);
        edge.is("spud(1, 9)", spuds.spud(1, 9), -4);
        edge.is("spud(2, 2)", spuds.spud(2, 2), -1);
    }
}
