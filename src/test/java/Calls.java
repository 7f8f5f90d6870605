import java.lang.reflect.InvocationTargetException;
import java.lang.reflect.Method;
import java.nio.charset.StandardCharsets;
import java.util.ArrayList;
import java.util.Arrays;
import java.util.List;
import java.util.Random;

/** Calls of the face as things: made at random (by a seed, so always the same), and run on any object with that face. */
final class Calls {
    record Call(String name, Object... args) {
        int on(Object target) throws InvocationTargetException {
            try {
                return (Integer) METHODS.of(target, name).invoke(target, args);
            } catch (IllegalAccessException e) {
                throw new IllegalStateException(e);
            }
        }

        public String toString() {
            String told = Arrays.toString(args);
            return name + "(" + told.substring(1, told.length() - 1) + ")";
        }
    }

    private static final class Methods {
        private final java.util.Map<String, Method> known = new java.util.HashMap<>();

        Method of(Object target, String name) {
            return known.computeIfAbsent(target.getClass().getName() + "." + name, key -> {
                for (Method m : target.getClass().getMethods()) {
                    if (m.getName().equals(name) && m.getDeclaringClass() == target.getClass()) return m;
                }
                throw new IllegalStateException(key);
            });
        }
    }

    private static final Methods METHODS = new Methods();

    private final Random random;

    Calls(long seed) {
        random = new Random(seed);
    }

    private int any(int least, int most) {
        return least + random.nextInt(most - least + 1);
    }

    private boolean oneIn(int n) {
        return random.nextInt(n) == 0;
    }

    /** Mostly as told, now and then just outside, or far outside. */
    private int number(int least, int most) {
        int way = random.nextInt(60);
        if (way == 0) return least - 1;
        if (way == 1) return most + 1;
        if (way == 2) return oneIn(2) ? Integer.MIN_VALUE : Integer.MAX_VALUE;
        if (way < 6) return least;
        if (way < 9) return most;
        return any(least, most);
    }

    /** The number of a thing: low ones more often, for those are there. */
    private int index(int most) {
        return oneIn(3) ? number(0, most) : any(0, any(0, most));
    }

    /** Calls that fill the valley, so that a run has something to live on. */
    List<Call> beginning() {
        List<Call> calls = new ArrayList<>();
        int villages = any(1, 6);
        for (int i = 0; i < villages; i++) calls.add(new Call("village"));
        for (int i = any(0, 6); i > 0; i--) calls.add(road());
        for (int i = any(1, 4); i > 0; i--) {
            calls.add(new Call("pit", any(0, villages - 1), any(1, 50), any(0, 50), any(1, oneIn(2) ? 300 : 9999)));
        }
        for (int i = any(0, 4); i > 0; i--) calls.add(new Call("shop", any(0, villages - 1), any(0, oneIn(2) ? 60 : 999)));
        for (int i = any(0, 16); i > 0; i--) {
            int mouths = any(1, 9);
            int how = 1000 * (oneIn(3) ? any(0, 9) : mouths - 1) + any(0, 999);
            calls.add(new Call("household", any(0, villages - 1), any(0, 1), mouths, how, oneIn(5) ? any(0, 99) : any(30, 99)));
        }
        for (int i = any(0, 4); i > 0; i--) calls.add(new Call("post", false, any(0, villages - 1)));
        for (int i = any(0, 6); i > 0; i--) calls.add(new Call("post", true, any(0, villages - 1)));
        for (int i = any(0, 9); i > 0; i--) calls.add(new Call("clause", any(0, 99)));
        for (int i = any(0, 20); i > 0; i--) calls.add(new Call("worth", any(0, 8), any(0, 3), any(0, 60)));
        for (int side = 0; side < 3; side++) if (!oneIn(4)) calls.addAll(reading(side));
        if (oneIn(2)) calls.add(new Call("gift", true, any(1, 900)));
        if (oneIn(2)) calls.add(new Call("gift", false, any(1, 9999)));
        return calls;
    }

    private Call road() {
        return new Call("road", index(5), index(5), number(1, 9));
    }

    List<Call> feeding(String text) {
        List<Call> calls = new ArrayList<>();
        byte[] bytes = text.getBytes(StandardCharsets.ISO_8859_1);
        for (int at = 0; at < bytes.length; at += 8) {
            int n = Math.min(8, bytes.length - at);
            calls.add(new Call("feed", Checks.packed(bytes, at, n), n));
        }
        return calls;
    }

    private List<Call> reading(int side) {
        String text = text(side);
        if (oneIn(4)) text = spoiled(text);
        List<Call> calls = feeding(text);
        calls.add(new Call("read", side));
        return calls;
    }

    String text(int side) {
        StringBuilder text = new StringBuilder();
        for (int i = oneIn(20) ? 11 : oneIn(8) ? 0 : any(1, 7); i > 0 && text.length() < 240; i--) {
            text.append(blanks()).append(line(side)).append(blanks()).append(';');
        }
        return text.append(blanks()).toString();
    }

    private String line(int side) {
        String[][] usual = {{"ticket", "rank", "safety", "quorum", "vote"}, {"relief"}, {"safety", "evict"}};
        String[] sorts = {"ticket", "rank", "safety", "quorum", "evict", "vote", "relief"};
        String[] from = oneIn(6) ? sorts : usual[side];
        String sort = from[random.nextInt(from.length)];
        String n = "";
        switch (sort) {
            case "rank": n = "" + any(0, oneIn(30) ? 10 : 9); break;
            case "evict": n = "" + any(0, 3); break;
            case "safety": n = "" + any(0, 9); break;
            case "quorum": n = "" + any(0, 110); break;
            case "vote": break;
            default: n = "" + any(0, oneIn(6) ? 999 : 60);
        }
        String line = sort + blanks() + n;
        boolean mayHaveCond = List.of("ticket", "rank", "vote", "relief").contains(sort) || oneIn(40);
        return mayHaveCond && !oneIn(3) ? line + " if" + gap() + cond(0) : line;
    }

    private String cond(int deep) {
        String cond = one(deep);
        for (int i = random.nextInt(3); i > 0; i--) cond += (oneIn(2) ? " and " : " or ") + one(deep);
        return cond;
    }

    private String one(int deep) {
        String nots = oneIn(3) ? "not " : oneIn(8) ? "not not " : "";
        if (deep < (oneIn(20) ? 5 : 3) && oneIn(4)) return nots + "(" + blanks() + cond(deep + 1) + blanks() + ")";
        String[] facts = {"mouths", "owes", "will", "coal", "hungry", "pit", "village"};
        int[] most = {9, 60, 99, 30, 20, 3, 5};
        int fact = random.nextInt(facts.length);
        return nots + facts[fact] + blanks() + "<=>".charAt(any(0, 2)) + blanks() + any(0, most[fact]);
    }

    private String blanks() {
        return oneIn(3) ? " " : oneIn(10) ? "   " : "";
    }

    private String gap() {
        return oneIn(6) ? "  " : " ";
    }

    private String spoiled(String text) {
        StringBuilder spoiled = new StringBuilder(text);
        String signs = " ;()<=>09azA\t\n\0\u00e9\u00ff-+";
        for (int i = any(1, 2); i > 0; i--) {
            int at = random.nextInt(spoiled.length() + 1);
            char sign = oneIn(3) ? (char) any(0, 255) : signs.charAt(random.nextInt(signs.length()));
            if (oneIn(3) || at == spoiled.length()) spoiled.insert(at, sign);
            else if (oneIn(2)) spoiled.setCharAt(at, sign);
            else if (oneIn(3)) spoiled.setLength(at);
            else spoiled.deleteCharAt(at);
        }
        return spoiled.toString();
    }

    /** A few calls that belong together, mostly one. */
    List<Call> more() {
        switch (random.nextInt(64)) {
            case 0: case 1: case 2: return List.of(new Call("days", number(1, oneIn(10) ? 60 : 8)));
            case 3: case 4: case 5: return List.of(new Call("days", 1));
            case 6: return List.of(new Call("village"));
            case 7: case 8: return List.of(road());
            case 9: return List.of(new Call("pit", number(0, 5), number(1, 50), number(0, 50), number(1, 9999)));
            case 10: return List.of(new Call("shop", number(0, 5), number(0, 999)));
            case 11: case 12:
                return List.of(new Call("household", index(5), index(3), number(1, 9), number(0, 9999), number(0, 99)));
            case 13: case 14: return List.of(new Call("of", index(15), number(0, 15)));
            case 15: return List.of(new Call("pitOf", index(3), number(0, 4)));
            case 16: return List.of(new Call("shopOf", index(3), number(0, 2)));
            case 17: return List.of(new Call("set", number(0, 2), number(0, 9)), new Call("set", number(0, 14), number(0, 900)));
            case 18: return List.of(new Call("gift", oneIn(2), oneIn(2) ? number(1, 9999) : number(1, 200)));
            case 19: case 20: return List.of(new Call("ship", oneIn(2) ? number(0, 999) : any(0, 80), number(1, 9999)));
            case 21: return oneIn(20) ? feeding("x".repeat(any(280, 310)))
                : List.of(new Call("feed", random.nextLong(), number(1, 8)));
            case 22: return List.of(new Call("read", number(0, 2)));
            case 23: return reading(any(0, 2));
            case 24: return List.of(new Call("gift", true, any(1, 150)), new Call("draws", any(0, 9)), new Call("draws", any(0, 9)));
            case 25: return List.of(new Call("line", index(2), index(9), number(0, 2)));
            case 26: return List.of(new Call("rule", number(0, 2)));
            case 27: return List.of(new Call("why", index(15), number(0, 2)));
            case 28: case 29: return List.of(new Call("news", index(5), number(-20, 20)));
            case 30: return List.of(new Call("hears", index(15), index(11)));
            case 31: return List.of(new Call("press", oneIn(2)));
            case 32: return List.of(new Call("paper", index(15)));
            case 33: case 34: return List.of(new Call("evict", index(11)));
            case 35: return eviction();
            case 36: case 37: return List.of(new Call("draws", index(15)));
            case 38: return List.of(new Call("least", number(0, 9)));
            case 39: case 40: return List.of(new Call("last", number(0, 3)));
            case 41: return List.of(new Call("post", oneIn(2), number(0, 5)));
            case 42: return List.of(new Call("watch", oneIn(2) ? number(0, 1) : number(10, 17)));
            case 43: return List.of(new Call("row", index(3), number(0, 1)));
            case 44: return List.of(new Call("alterRow", index(3), number(0, 1), number(0, 7)), new Call("judge"));
            case 45: return List.of(new Call(oneIn(2) ? "dropRow" : "judge"));
            case 46: return List.of(new Call("clause", number(0, 99)));
            case 47: return List.of(new Call("worth", index(8), index(3), number(0, 99)));
            case 48: return List.of(new Call("ballot", index(511), number(0, 4)));
            case 49: return List.of(new Call("ballot", any(0, 15), any(0, 4)), new Call("offer"));
            case 50: return List.of(new Call("offer"));
            case 51: return List.of(new Call("sheet", number(0, 3), number(-1, 4), number(0, 40)));
            case 52: return List.of(new Call("put", index(3), index(9), oneIn(2) ? random.nextInt() : any(-1, 300)));
            case 53: return List.of(new Call("item", index(3), number(0, 4), index(9)));
            case 54: return List.of(new Call("comes", number(0, 3), number(0, 9)));
            case 55: return arrival();
            case 56: case 57: return List.of(new Call("shelf", index(3), number(0, oneIn(3) ? 4 : 2), index(3)));
            case 58: return List.of(new Call("taken", index(3), oneIn(3) ? number(10, 14) : number(0, 6)));
            case 59: case 60:
                return List.of(new Call("deal", index(3), number(0, 3), oneIn(3) ? random.nextInt() : any(-9, 99)),
                    new Call("trace", index(9)));
            case 61: return List.of(new Call("trace", index(9)), new Call("many", number(0, 16)));
            case 62: return List.of(new Call("keep"));
            default: return List.of(new Call(oneIn(3) ? "keep" : "again"));
        }
    }

    private List<Call> eviction() {
        List<Call> calls = new ArrayList<>(feeding("evict " + any(0, 2) + ";"));
        calls.add(new Call("read", 2));
        calls.add(new Call("paper", any(0, 7)));
        calls.add(new Call("days", 7 * any(1, 2)));
        for (int i = 0; i < 4; i++) calls.add(new Call("evict", any(0, 5)));
        return calls;
    }

    private List<Call> arrival() {
        int sheet = any(0, 3);
        int at = any(0, 3);
        List<Call> calls = new ArrayList<>();
        calls.add(new Call("sheet", sheet, 1, any(4, 10)));
        int[] told = {any(0, 3), any(0, 2), any(1, 9), any(0, 9999), any(0, 99)};
        for (int i = 0; i < told.length; i++) calls.add(new Call("put", sheet, at + i, told[i]));
        calls.add(new Call("comes", sheet, at));
        return calls;
    }

    /** Every question that a state can be asked without being changed; what only set() and road() tell is left out. */
    static List<Call> questions() {
        List<Call> asked = new ArrayList<>();
        for (int what = 0; what <= 16; what++) asked.add(new Call("many", what));
        for (int h = 0; h < 16; h++) {
            for (int what = 0; what <= 15; what++) asked.add(new Call("of", h, what));
            for (int what = 0; what <= 2; what++) asked.add(new Call("why", h, what));
            for (int n = 0; n < 12; n++) asked.add(new Call("hears", h, n));
            asked.add(new Call("draws", h));
        }
        for (int i = 0; i < 4; i++) {
            for (int what = 0; what <= 4; what++) asked.add(new Call("pitOf", i, what));
            for (int what = 0; what <= 2; what++) asked.add(new Call("shopOf", i, what));
            for (int as = 0; as <= 14; as++) asked.add(new Call("taken", i, as));
            for (int what = 0; what <= 1; what++) asked.add(new Call("row", i, what));
            for (int sort = 0; sort <= 4; sort++) {
                for (int at = 0; at <= 10; at++) asked.add(new Call("item", i, sort, at));
            }
            asked.add(new Call("last", i));
        }
        for (int side = 0; side < 3; side++) {
            for (int i = 0; i < 10; i++) {
                for (int what = 0; what <= 2; what++) asked.add(new Call("line", side, i, what));
            }
            asked.add(new Call("rule", side));
        }
        for (int n = 0; n <= 9; n++) {
            asked.add(new Call("least", n));
            asked.add(new Call("trace", n));
        }
        for (int set : new int[] {0, 1, 2, 7, 8, 31, 511}) {
            for (int what = 0; what <= 4; what++) asked.add(new Call("ballot", set, what));
        }
        asked.add(new Call("judge"));
        asked.add(new Call("offer"));
        return asked;
    }
}
