import java.util.ArrayList;
import java.util.HashMap;
import java.util.List;
import java.util.Map;
import java.util.regex.Matcher;
import java.util.regex.Pattern;

/** The text of the document once more, by patterns and tables. */
final class ModelText {
    static final class Fault extends Exception {
        private static final long serialVersionUID = 1;
        final int kind;
        final int place;

        Fault(int kind, int place) {
            this.kind = kind;
            this.place = place;
        }
    }

    private static final Map<String, String> FORMS = Map.of("fire", "cells fall rim ;",
            "heat", "heated h h h ;", "wood", "cell amount rounds ;", "spud", "size wrap place ;",
            "out", "size wrap ;", "memo", "potato cell ;");
    private static final Map<String, int[]> BOUNDS = Map.of("cells", new int[] {3, 8},
            "fall", new int[] {0, 9}, "rim", new int[] {0, 9}, "heated", new int[] {0, 7},
            "cell", new int[] {0, 7}, "h", new int[] {0, 99}, "amount", new int[] {1, 99},
            "rounds", new int[] {1, 9}, "size", new int[] {1, 9});
    private static final Map<String, int[]> MORE_BOUNDS = Map.of("place", new int[] {0, 23},
            "potato", new int[] {0, 5});
    private static final List<String> WRAPS = List.of("bare", "clay", "foil");
    private static final Pattern TOKEN = Pattern.compile("\\G *(?:([a-z]+)|([0-9]+)|(;)|(\\z)|(?s:(.)))");

    final ModelState told = new ModelState();
    private final Matcher tokens;
    private final int length;
    private final Map<Integer, Integer> memos = new HashMap<>();
    private final List<Integer> heated = new ArrayList<>();
    private final List<Integer> cells = new ArrayList<>();
    private boolean fireTold;
    private String token;
    private int begin;

    ModelText(String text) {
        tokens = TOKEN.matcher(text);
        length = text.length();
    }

    private void step() throws Fault {
        if (!tokens.find()) {
            throw new IllegalStateException("no token at all");
        }
        for (int group = 1; group <= 5; group++) {
            if (tokens.group(group) != null) {
                token = tokens.group(group);
                begin = tokens.start(group);
            }
        }
        if (tokens.group(5) != null || tokens.group(2) != null && token.length() > 2) {
            throw new Fault(1, begin);
        }
    }

    /** How many lines there are. */
    int read() throws Fault {
        int lines = 0;
        for (step(); !token.isEmpty(); step()) {
            line(token);
            lines++;
        }
        for (int cell : cells) {
            there(cell < told.cells);
        }
        for (ModelState.Potato p : told.potatoes) {
            there(p.place == null || p.place < 3 * told.cells);
        }
        for (int p : memos.keySet()) {
            there(p < told.potatoes.size());
            told.potatoes.get(p).cell = memos.get(p);
        }
        return lines;
    }

    private void there(boolean is) throws Fault {
        if (!is) {
            throw new Fault(6, length);
        }
    }

    private void line(String name) throws Fault {
        if (!FORMS.containsKey(name)) {
            throw new Fault(2, begin);
        }
        boolean isPotato = name.equals("spud") || name.equals("out");
        if (name.equals("fire") && fireTold) {
            throw new Fault(4, begin);
        }
        if (name.equals("wood") && told.wood.size() == 6 || isPotato && told.potatoes.size() == 6) {
            throw new Fault(5, begin);
        }
        List<Integer> n = new ArrayList<>();
        for (String slot : FORMS.get(name).split(" ")) {
            step();
            n.add(slot(slot));
        }
        switch (name) {
            case "fire":
                fireTold = true;
                told.cells = n.get(0);
                told.fall = n.get(1);
                told.rim = n.get(2);
                break;
            case "heat":
                heated.add(n.get(0));
                for (int depth = 0; depth < 3; depth++) {
                    told.heat[3 * n.get(0) + depth] = n.get(1 + depth);
                }
                break;
            case "wood": told.wood.add(new int[] {n.get(0), n.get(1), n.get(2)}); break;
            case "memo": memos.put(n.get(0), n.get(1)); break;
            default: told.potatoes.add(new ModelState.Potato(n.get(0), n.get(1), isPotato && n.size() == 4 ? n.get(2) : null));
        }
    }

    private int slot(String slot) throws Fault {
        if (slot.equals(";")) {
            if (!token.equals(";")) {
                throw new Fault(2, begin);
            }
            return 0;
        }
        if (slot.equals("wrap")) {
            if (!WRAPS.contains(token)) {
                throw new Fault(2, begin);
            }
            return WRAPS.indexOf(token);
        }
        if (!token.matches("[0-9]+")) {
            throw new Fault(2, begin);
        }
        int value = Integer.parseInt(token);
        int[] bounds = BOUNDS.containsKey(slot) ? BOUNDS.get(slot) : MORE_BOUNDS.get(slot);
        if (value < bounds[0] || value > bounds[1]) {
            throw new Fault(3, begin);
        }
        boolean isTold = slot.equals("heated") && heated.contains(value)
                || slot.equals("potato") && memos.containsKey(value) || slot.equals("place") && told.isTaken(value);
        if (isTold) {
            throw new Fault(4, begin);
        }
        if (slot.equals("heated") || slot.equals("cell")) {
            cells.add(value);
        }
        return value;
    }
}
