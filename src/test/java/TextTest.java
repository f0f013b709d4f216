/** Promises 1 to 9: a new object, the tape, its text and faults, what is asked of the state. */
public final class TextTest {
    private static final Due due = new Due("TextTest");

    public static void main(String[] args) {
        newObject();
        tape();
        textsThatAreTaken();
        faultOfNoToken();
        faultOfMisplaced();
        faultOfBounds();
        faultOfTwice();
        faultOfTooMany();
        faultOfNotThere();
        firstFaultCounts();
        oneTextBehindAnother();
        whatAFaultLeaves();
        whatATextReplaces();
        asking();
        due.close();
    }

    private static void newObject() {
        EmberSpuds fire = new EmberSpuds();
        int[] rules = {3, 1, 1, 0, 0, 0, 0};
        for (int what = 0; what < rules.length; what++) {
            due.is("new rule(" + what + ")", fire.rule(what), rules[what]);
        }
        for (int x = 0; x < 9; x++) {
            due.is("new heat(" + x + ")", fire.heat(x), 0);
        }
        due.is("new heat(9)", fire.heat(9), -1);
        due.is("new wood(0, 0)", fire.wood(0, 0), -1);
        due.is("new spud(0, 0)", fire.spud(0, 0), -1);
        due.is("new fault()", fire.fault(), 0);
        due.is("new torn()", fire.torn(), 0);
        int[] counts = {0, 0, 0, 0, 0, 0, 0, -4, 0};
        for (int what = 0; what < counts.length; what++) {
            due.is("new count(" + what + ")", fire.count(what), counts[what]);
        }
        for (int k = 0; k < 4; k++) {
            due.is("new lay(" + k + ", 0, 0)", fire.lay(k, 0, 0), -11);
        }
    }

    private static void tape() {
        EmberSpuds fire = new EmberSpuds();
        due.is("feed(-1)", fire.feed(-1), -1);
        due.is("feed(128)", fire.feed(128), -1);
        due.is("feed(0)", fire.feed(0), 1);
        due.is("feed(127)", fire.feed(127), 2);
        for (int i = 3; i <= 160; i++) {
            due.is("feed(32)", fire.feed(32), i);
        }
        due.is("feed(32) on a full tape", fire.feed(32), -3);
        due.is("feed(200) on a full tape", fire.feed(200), -1);
        due.is("count(6)", fire.count(6), 160);
        due.is("end(161)", fire.end(161), -1);
        due.is("end(-1)", fire.end(-1), -1);
        due.is("end(160)", fire.end(160), 160);
        due.is("end(4)", fire.end(4), 160);
        due.is("end(5)", fire.end(5), -1);
        due.is("count(6)", fire.count(6), 4);
        due.is("end(0)", fire.end(0), 4);
        due.is("end(0)", fire.end(0), 0);
        Due.feedAll(fire, "fire 5 1 1;zzz");
        due.is("end(11)", fire.end(11), 14);
        due.is("text()", fire.text(), 1);
        due.is("rule(0)", fire.rule(0), 5);
        due.is("the tape is empty then", fire.count(6), 0);
    }

    private static void taken(String text, int lines) {
        EmberSpuds fire = new EmberSpuds();
        due.is("'" + text + "'", Due.tell(fire, text), lines);
        due.is("fault() of '" + text + "'", fire.fault(), 0);
    }

    private static void refused(String text, int kind, int place) {
        EmberSpuds fire = new EmberSpuds();
        due.is("'" + text + "'", Due.tell(fire, text), -10 - place);
        due.is("fault() of '" + text + "'", fire.fault(), kind);
        due.is("count(6) behind '" + text + "'", fire.count(6), 0);
    }

    private static void textsThatAreTaken() {
        taken("", 0);
        taken("   ", 0);
        taken("fire3 0 9;", 1);
        taken(" fire  08 00 09 ; heat7 0 99 00;", 2);
        taken("out1bare;out9clay;spud1foil8;memo2 2;", 4);
        taken("memo 0 1;spud 1 bare 3;", 2);
        taken("heat 7 1 1 1;fire 8 1 1;", 2);
        taken("wood 2 99 9;wood 0 1 1;wood 0 1 1;wood 0 1 1;wood 0 1 1;wood 0 1 1;", 6);
        taken("memo 5 7;spud 1 bare 23;out 1 bare;out 1 bare;out 1 bare;out 1 bare;out 1 bare;fire 8 0 0;", 8);
    }

    private static void faultOfNoToken() {
        refused("?", 1, 0);
        refused("fire 3 1 1;\t", 1, 11);
        refused("Fire 3 1 1;", 1, 0);
        refused("fire 3 1 1,", 1, 10);
        refused("fire 003 1 1;", 1, 5);
        refused("fire 3 1 100;", 1, 9);
        refused("heat 0 1234567890 1 1;", 1, 7);
        refused("spud 3 ba!re 1;", 2, 7);
        refused("spud 3 @ 1;", 1, 7);
        refused("fire 3 1 1" + (char) 0, 1, 10);
        refused("fire 3 1 1;" + (char) 127, 1, 11);
        refused("123", 1, 0);
        refused("fire 3 1 1 -", 1, 11);
        refused("spud 3 bare 1 123", 1, 14);
    }

    private static void faultOfMisplaced() {
        refused(";", 2, 0);
        refused("12", 2, 0);
        refused("fir 3 1 1;", 2, 0);
        refused("fires 3 1 1;", 2, 0);
        refused("dire 3 1 1;", 2, 0);
        refused("spud 3 care 0;", 2, 7);
        refused("zoo 3;", 2, 0);
        refused("a", 2, 0);
        refused("fire 3 1 1z;", 2, 10);
        refused("firefire 3 1 1;", 2, 0);
        refused("bare", 2, 0);
        refused("fire 3 1 1;;", 2, 11);
        refused("fire", 2, 4);
        refused("fire 3 1 1", 2, 10);
        refused("fire 3 1 1  ", 2, 12);
        refused("fire 3 1 1 1;", 2, 11);
        refused("fire 3 1;", 2, 8);
        refused("fire bare 1 1;", 2, 5);
        refused("spud 3 4 5;", 2, 7);
        refused("spud 3 fire 5;", 2, 7);
        refused("spud 3 bares 5;", 2, 7);
        refused("spud 3 foil;", 2, 11);
        refused("spud 3", 2, 6);
        refused("out 3 clay 5;", 2, 11);
        refused("memo 0;", 2, 6);
        refused("wood 0 1 1", 2, 10);
        refused("heat 0 1 1;", 2, 10);
        refused("heat 0 1 1 1 heat", 2, 13);
    }

    private static void faultOfBounds() {
        refused("fire 2 1 1;", 3, 5);
        refused("fire 9 1 1;", 3, 5);
        refused("fire 3 10 1;", 3, 7);
        refused("fire 3 1 10;", 3, 9);
        refused("heat 8 1 1 1;", 3, 5);
        refused("wood 8 1 1;", 3, 5);
        refused("wood 0 0 1;", 3, 7);
        refused("wood 0 1 0;", 3, 9);
        refused("wood 0 1 10;", 3, 9);
        refused("spud 0 bare 0;", 3, 5);
        refused("spud 10 bare 0;", 3, 5);
        refused("spud 1 bare 24;", 3, 12);
        refused("out 0 bare;", 3, 4);
        refused("out 10 bare;", 3, 4);
        refused("memo 6 0;", 3, 5);
        refused("memo 0 8;", 3, 7);
    }

    private static void faultOfTwice() {
        refused("fire 3 1 1;fire 3 1 1;", 4, 11);
        refused("fire 3 1 1; fire", 4, 12);
        refused("heat 1 1 1 1;heat 2 1 1 1;heat 01 1 1 1;", 4, 31);
        refused("out 1 bare;memo 0 1;memo 0 1;", 4, 25);
        refused("memo 3 0;memo 3 0;", 4, 14);
        refused("spud 1 bare 4;spud 2 clay 4;", 4, 26);
        refused("spud 1 bare 20;spud 2 clay 20;", 4, 27);
    }

    private static void faultOfTooMany() {
        String wood = "wood 0 1 1;";
        refused(wood.repeat(6) + "wood", 5, 66);
        refused(wood.repeat(7), 5, 66);
        String out = "out 1 bare;";
        refused(out.repeat(6) + "out 0", 5, 66);
        refused(out.repeat(6) + " spud 0", 5, 67);
        refused(out.repeat(6) + "?", 1, 66);
    }

    private static void faultOfNotThere() {
        refused("heat 3 1 1 1;", 6, 13);
        refused("wood 3 1 1;", 6, 11);
        refused("spud 1 bare 9; ", 6, 15);
        refused("memo 0 0;", 6, 9);
        refused("out 1 bare;memo 1 0;", 6, 20);
        refused("out 1 bare;memo 0 3;", 6, 20);
        refused("fire 7 1 1;heat 7 1 1 1;", 6, 24);
        refused("spud 1 bare 21;fire 7 1 1;", 6, 26);
        taken("spud 1 bare 20;fire 7 1 1;", 2);
    }

    private static void firstFaultCounts() {
        refused("heat 3 1 1 1;heat 3 1 1 1;", 4, 18);
        refused("heat 3 1 1 1;fire 2 1 1;", 3, 18);
        refused("heat 0 1 1 1;heat 0 1 1 ?", 4, 18);
        refused("fire 2 1 ?;", 3, 5);
        refused("spud 1 bare 4;spud 0 clay 4;", 3, 19);
        refused("spud 1 bare 4;spud 1 clay 4?", 4, 26);
    }

    private static void oneTextBehindAnother() {
        EmberSpuds fire = new EmberSpuds();
        due.is("not there", Due.tell(fire, "heat 7 1 1 1;spud 1 bare 23;memo 5 7;wood 0 1 1;"), -58);
        due.is("fault()", fire.fault(), 6);
        String text = "fire 4 1 1;heat 2 1 1 1;spud 1 bare 8;memo 0 3;wood 3 9 9;";
        for (int i = 0; i < 5; i++) {
            due.is("told again", Due.tell(fire, text), 5);
            due.is("rule(0)", fire.rule(0), 4);
            due.is("rule(3)", fire.rule(3), 1);
            due.is("rule(5)", fire.rule(5), 1);
            due.is("spud(0, 9)", fire.spud(0, 9), 3);
            due.is("count(8)", fire.count(8), 3);
        }
        due.is("another", Due.tell(fire, "spud 2 clay 3;"), 1);
        due.is("spud(0, 9)", fire.spud(0, 9), -4);
        due.is("count(8)", fire.count(8), 0);
        fire.fan(3, 99);
        fire.go(1);
        fire.turn(0);
        fire.go(1);
        due.is("another", Due.tell(fire, "spud 2 clay 3;"), 1);
        due.is("raw", fire.spud(0, 3) + fire.spud(0, 4) + fire.spud(0, 5), 0);
    }

    private static void whatAFaultLeaves() {
        EmberSpuds fire = Due.told("fire 4 2 3;heat 1 80 60 40;spud 3 clay 4;");
        fire.rake(2, true);
        fire.feel(1, 1, 1);
        fire.keep(0);
        fire.go(2);
        due.is("fire 8 9 9; heat", Due.tell(fire, "fire 8 9 9; heat"), -26);
        due.is("fault()", fire.fault(), 2);
        int[] rules = {4, 2, 3, 0, 2, 1, 4};
        for (int what = 0; what < rules.length; what++) {
            due.is("rule(" + what + ") behind a fault", fire.rule(what), rules[what]);
        }
        due.is("heat(3)", fire.heat(3), 76);
        due.is("count(4)", fire.count(4), 1);
        due.is("count(5)", fire.count(5), 1);
    }

    private static void whatATextReplaces() {
        EmberSpuds fire = Due.told("fire 4 2 3;heat 1 80 60 40;wood 0 5 5;spud 3 clay 4;memo 0 1;");
        fire.rake(2, true);
        fire.feel(1, 1, 1);
        fire.keep(0);
        fire.keep(1);
        fire.go(2);
        fire.sheet(0, 0, 7);
        fire.read(0, 1, 0, 1);
        due.is("out 2 foil;", Due.tell(fire, "out 2 foil;"), 1);
        int[] rules = {3, 1, 1, 0, 0, 1, 0};
        for (int what = 0; what < rules.length; what++) {
            due.is("rule(" + what + ") behind a text", fire.rule(what), rules[what]);
        }
        int[] counts = {0, 0, 0, 1, 0, 0, 0, 7, 0};
        for (int what = 0; what < counts.length; what++) {
            due.is("count(" + what + ") behind a text", fire.count(what), counts[what]);
        }
        due.is("back(0)", fire.back(0), -2);
        due.is("back(1)", fire.back(1), -2);
        due.is("torn()", fire.torn(), 3);
        due.is("spud(0, 9)", fire.spud(0, 9), -4);
        due.is("an empty text", fire.text(), 0);
        due.is("rule(5) behind an empty text", fire.rule(5), 0);
        due.is("a fault", Due.tell(fire, "?"), -10);
        due.is("fault()", fire.fault(), 1);
        due.is("an empty text", fire.text(), 0);
        due.is("fault() of an empty text", fire.fault(), 0);
    }

    private static void asking() {
        EmberSpuds fire = Due.told("fire 8 0 9;heat 7 1 2 3;heat 0 97 98 99;wood 7 9 1;wood 1 99 9;"
                + "spud 9 foil 23;out 1 clay;spud 2 bare 0;memo 1 7;");
        int[] rules = {8, 0, 9, 2, 0, 3, 0};
        for (int what = 0; what < rules.length; what++) {
            due.is("rule(" + what + ")", fire.rule(what), rules[what]);
        }
        due.is("rule(7)", fire.rule(7), -1);
        due.is("rule(-1)", fire.rule(-1), -1);
        int[] heats = {97, 98, 99};
        for (int x = 0; x < 3; x++) {
            due.is("heat(" + x + ")", fire.heat(x), heats[x]);
            due.is("heat(" + (21 + x) + ")", fire.heat(21 + x), x + 1);
        }
        due.is("heat(24)", fire.heat(24), -1);
        due.is("heat(-1)", fire.heat(-1), -1);
        int[][] woods = {{7, 9, 1}, {1, 99, 9}};
        for (int i = 0; i < 2; i++) {
            for (int what = 0; what < 3; what++) {
                due.is("wood(" + i + ", " + what + ")", fire.wood(i, what), woods[i][what]);
            }
        }
        due.is("wood(2, 0)", fire.wood(2, 0), -1);
        due.is("wood(-1, 0)", fire.wood(-1, 0), -1);
        due.is("wood(0, 3)", fire.wood(0, 3), -1);
        due.is("wood(0, -1)", fire.wood(0, -1), -1);
        int[][] spuds = {{9, 2, 23, 0, 0, 0, 0, 0, 0, -4}, {1, 1, -4, 0, 0, 0, 0, 0, 0, 7},
            {2, 0, 0, 0, 0, 0, 0, 0, 0, -4}};
        for (int p = 0; p < spuds.length; p++) {
            for (int what = 0; what < 10; what++) {
                due.is("spud(" + p + ", " + what + ")", fire.spud(p, what), spuds[p][what]);
            }
        }
        due.is("spud(3, 0)", fire.spud(3, 0), -1);
        due.is("spud(-1, 0)", fire.spud(-1, 0), -1);
        due.is("spud(0, 10)", fire.spud(0, 10), -1);
        due.is("spud(0, -1)", fire.spud(0, -1), -1);
    }
}
