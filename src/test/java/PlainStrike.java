import java.util.ArrayList;
import java.util.List;
import java.util.function.ToIntFunction;
import java.util.regex.Matcher;
import java.util.regex.Pattern;

/**
 * The document once more, in free Java and by other ways than LongStrike: shifts are all tried, texts go through
 * a table of states, deals run in true classes, sheets are true arrays, and again() lives all kept calls anew.
 */
public final class PlainStrike {
    private Core core = new Core();
    private List<ToIntFunction<Core>> lived = new ArrayList<>();
    private List<ToIntFunction<Core>> keptLife = null;

    private StringBuilder tape = new StringBuilder();
    private List<int[]> rows = new ArrayList<>();
    private List<int[]> rowsTold = null;
    private final Object[] sheets = new Object[4];
    private final Object[] shelves = new Object[4];
    private List<Integer> ran = new ArrayList<>();

    private int live(ToIntFunction<Core> call) {
        lived.add(call);
        return call.applyAsInt(core);
    }

    // ---- what is kept

    public int days(int n) { return live(c -> c.days(n)); }
    public int village() { return live(Core::village); }
    public int road(int a, int b, int n) { return live(c -> c.road(a, b, n)); }
    public int pit(int v, int in, int out, int limit) { return live(c -> c.pit(v, in, out, limit)); }
    public int shop(int v, int credit) { return live(c -> c.shop(v, credit)); }
    public int household(int v, int p, int m, int how, int will) { return live(c -> c.household(v, p, m, how, will)); }
    public int set(int what, int v) { return live(c -> c.set(what, v)); }
    public int gift(boolean fund, int n) { return live(c -> c.gift(fund, n)); }
    public int ship(int day, int n) { return live(c -> c.ship(day, n)); }
    public int news(int v, int weight) { return live(c -> c.news(v, weight)); }
    public int press(boolean fund) { return live(c -> c.press(fund)); }
    public int paper(int h) { return live(c -> c.paper(h)); }
    public int evict(int p) { return live(c -> c.evict(p)); }
    public int post(boolean man, int v) { return live(c -> c.post(man, v)); }
    public int clause(int cost) { return live(c -> c.clause(cost)); }
    public int worth(int clause, int p, int v) { return live(c -> c.worth(clause, p, v)); }

    public int keep() {
        keptLife = new ArrayList<>(lived);
        return 1;
    }

    public int again() {
        if (keptLife == null) return -3;
        lived = new ArrayList<>(keptLife);
        core = new Core();
        for (ToIntFunction<Core> call : lived) call.applyAsInt(core);
        return 1;
    }

    // ---- what only asks

    public int of(int h, int what) { return core.of(h, what); }
    public int pitOf(int p, int what) { return core.pitOf(p, what); }
    public int shopOf(int s, int what) { return core.shopOf(s, what); }
    public int line(int side, int i, int what) { return core.line(side, i, what); }
    public int rule(int what) { return core.rule(what); }
    public int why(int h, int what) { return core.why(h, what); }
    public int hears(int h, int n) { return core.hears(h, n); }
    public int draws(int h) { return core.draws(h); }
    public int least(int n) { return core.least(n); }
    public int last(int what) { return core.last(what); }
    public int ballot(int set, int what) { return core.ballot(set, what); }
    public int offer() { return core.offer(); }

    // ---- the tape

    public int feed(long eight, int n) {
        if (n < 1 || n > 8) return -1;
        if (tape.length() + n > 300) return -2;
        for (int i = 0; i < n; i++) tape.append((char) (eight >> 8 * i & 0xFF));
        return tape.length();
    }

    public int read(int side) {
        String text = tape.toString();
        tape = new StringBuilder();
        if (side < 0 || side > 2) return -1;
        return live(c -> c.readText(side, text));
    }

    // ---- rows

    public int watch(int what) {
        if (what != 0 && what != 1 && !(what >= 10 && what < 10 + core.men.size())) return -1;
        int[] shift = core.bestShift();
        if (shift == null) return -3;
        rows = new ArrayList<>();
        rowsTold = new ArrayList<>();
        int walks = 0;
        for (int m = 0; m < shift.length; m++) {
            if (shift[m] == Core.NOWHERE) continue;
            rows.add(new int[] {m, shift[m]});
            rowsTold.add(new int[] {m, shift[m]});
            walks += core.roadBetween(core.men.get(m), core.gates.get(shift[m]));
        }
        if (what == 0) return rows.size();
        if (what == 1) return walks;
        return shift[what - 10] == Core.NOWHERE ? -9 : shift[what - 10];
    }

    public int row(int i, int what) {
        return i < 0 || i >= rows.size() || what < 0 || what > 1 ? -9 : rows.get(i)[what];
    }

    public int alterRow(int i, int what, int v) {
        int was = row(i, what);
        if (i >= 0 && i < rows.size() && what >= 0 && what <= 1) rows.get(i)[what] = v;
        return was;
    }

    public int dropRow() {
        if (rows.isEmpty()) return -3;
        rows.remove(rows.size() - 1);
        return rows.size();
    }

    public int judge() {
        if (rowsTold == null) return -3;
        int reader = -1;
        for (int i = rowsTold.size() - 1; i >= 0; i--) {
            if (i >= rows.size()) reader = rows.size();
            else if (!java.util.Arrays.equals(rows.get(i), rowsTold.get(i))) reader = i;
        }
        return reader + 1;
    }

    // ---- sheets

    public int sheet(int s, int sort, int n) {
        if (s < 0 || s > 3 || sort < -1 || sort > 4) return -1;
        if (sort >= 0 && n > 40) return -1;
        try {
            switch (sort) {
                case 0: sheets[s] = new byte[n]; break;
                case 1: sheets[s] = new short[n]; break;
                case 2: sheets[s] = new int[n]; break;
                case 3: sheets[s] = new long[n]; break;
                case 4: sheets[s] = new boolean[n]; break;
                default: sheets[s] = null;
            }
            return 1;
        } catch (NegativeArraySizeException e) {
            return -14;
        }
    }

    public int put(int s, int i, int v) {
        if (s < 0 || s > 3) return -1;
        Object row = sheets[s];
        if (row == null) return -11;
        try {
            if (row instanceof byte[]) ((byte[]) row)[i] = (byte) v;
            else if (row instanceof short[]) ((short[]) row)[i] = (short) v;
            else if (row instanceof int[]) ((int[]) row)[i] = v;
            else if (row instanceof long[]) ((long[]) row)[i] = v;
            else ((boolean[]) row)[i] = v != 0;
            return 1;
        } catch (ArrayIndexOutOfBoundsException e) {
            return -12;
        }
    }

    public int item(int s, int sort, int i) {
        if (s < 0 || s > 3 || sort < 0 || sort > 4) return -1;
        Object row = sheets[s];
        try {
            switch (sort) {
                case 0: return ((byte[]) row)[i];
                case 1: return ((short[]) row)[i];
                case 2: return ((int[]) row)[i];
                case 3: return (int) ((long[]) row)[i];
                default: return ((boolean[]) row)[i] ? 1 : 0;
            }
        } catch (ClassCastException e) {
            return -13;
        } catch (NullPointerException e) {
            return -11;
        } catch (ArrayIndexOutOfBoundsException e) {
            return -12;
        }
    }

    public int comes(int s, int i) {
        if (s < 0 || s > 3) return -1;
        int[] told = new int[5];
        try {
            short[] row = (short[]) sheets[s];
            for (int k = 0; k < 5; k++) told[k] = row[i + k];
        } catch (ClassCastException e) {
            return -13;
        } catch (NullPointerException e) {
            return -11;
        } catch (ArrayIndexOutOfBoundsException e) {
            return -12;
        }
        return household(told[0], told[1], told[2], told[3], told[4]);
    }

    // ---- shelves: {what, n}, or a row itself

    public int shelf(int s, int what, int n) {
        if (s < 0 || s > 3) return -1;
        int[] sizes = {core.homes.size(), core.shops.size(), core.pits.size(), 4};
        if (what < 0 || what > 4 || what < 4 && (n < 0 || n >= sizes[what])) return -1;
        if (what == 4) shelves[s] = null;
        else if (what == 3) shelves[s] = sheets[n];
        else shelves[s] = new Label(what, n);
        return 1;
    }

    private record Label(int what, int n) { }

    private Holder thingOn(int s) {
        if (!(shelves[s] instanceof Label label)) return null;
        int[] sizes = {core.homes.size(), core.shops.size(), core.pits.size()};
        if (label.n >= sizes[label.what]) return null;
        Holder thing;
        if (label.what == 0) {
            Core.Home h = core.homes.get(label.n);
            thing = h.back ? new Back() : h.evicted ? new Lodger() : new HouseholdThing();
            thing.v = h.village;
            thing.m = h.mouths;
        } else if (label.what == 1) {
            thing = new ShopThing();
            thing.v = core.shops.get(label.n).village;
            thing.m = core.shops.get(label.n).credit;
        } else {
            Core.Pit p = core.pits.get(label.n);
            thing = p.lostOn >= 0 ? new Lost() : new PitThing();
            thing.v = p.village;
            thing.m = p.limit;
        }
        thing.n = label.n;
        thing.ran = new ArrayList<>();
        return thing;
    }

    public int taken(int s, int as) {
        if (s < 0 || s > 3 || as < 0 || as > 14 || as > 6 && as < 10) return -1;
        Object held = shelves[s] instanceof Label ? thingOn(s) : shelves[s];
        Class<?>[] kinds = {Holder.class, HouseholdThing.class, ShopThing.class, PitThing.class, Lodger.class,
            Back.class, Lost.class, null, null, null, byte[].class, short[].class, int[].class, long[].class,
            boolean[].class};
        try {
            Object thing = kinds[as].cast(held);
            return as < 10 ? ((Holder) thing).n : java.lang.reflect.Array.getLength(thing);
        } catch (ClassCastException e) {
            return -13;
        } catch (NullPointerException e) {
            return -11;
        }
    }

    public int deal(int s, int deal, int x) {
        ran = new ArrayList<>();
        Holder thing = s < 0 || s > 3 || deal < 0 || deal > 3 ? null : thingOn(s);
        if (thing == null) return 0;
        ran = thing.ran;
        try {
            switch (deal) {
                case 0: return thing.eats(x);
                case 1: return thing.owes(x);
                case 2: return thing.votes(x);
                default: return thing.parts(x);
            }
        } catch (ArithmeticException e) {
            return -15;
        }
    }

    public int trace(int i) {
        return i < 0 || i >= Math.min(30, ran.size()) ? -3 : ran.get(i);
    }

    public int many(int what) {
        switch (what) {
            case 12: return rows.size();
            case 14: return tape.length();
            case 15: return Math.min(30, ran.size());
            default: return core.many(what);
        }
    }

    private static class Holder {
        int n, v, m;
        List<Integer> ran;
        int eats(int x) { ran.add(10); return x + m; }
        int owes(int x) { ran.add(11); return eats(x) * 2; }
        int votes(int x) { ran.add(12); return owes(x) - v; }
        int parts(int x) { ran.add(13); return x / (n - 1); }
    }

    private static class HouseholdThing extends Holder {
        int eats(int x) { ran.add(20); return super.eats(x) ^ n; }
        int votes(int x) { ran.add(21); return super.votes(x) + eats(1); }
    }

    private static class ShopThing extends Holder {
        int owes(int x) { ran.add(30); return 0 - super.owes(x); }
    }

    private static class PitThing extends Holder {
        int votes(int x) { ran.add(40); return super.votes(x) * 3; }
        int parts(int x) { ran.add(41); return super.parts(x + v); }
    }

    private static class Lodger extends HouseholdThing {
        int eats(int x) { ran.add(50); return super.eats(x - 1); }
    }

    private static class Back extends HouseholdThing {
        int owes(int x) { ran.add(60); return super.owes(x) + 5; }
        int parts(int x) { ran.add(61); return 0 - super.parts(x); }
    }

    private static class Lost extends PitThing {
        int votes(int x) { ran.add(70); return super.votes(x) - owes(0); }
        int eats(int x) { ran.add(71); return super.eats(x) * n; }
    }

    /** A text by a table of states, its conditions kept as the parts they are written in. */
    static final class Text {
        private static final List<String> SORTS =
            List.of("ticket", "rank", "safety", "quorum", "evict", "vote", "relief");
        private static final List<String> FACTS =
            List.of("mouths", "owes", "will", "coal", "hungry", "pit", "village");
        private static final Pattern PARTS = Pattern.compile("[a-z]+|[0-9]+|[^ ]", Pattern.DOTALL);

        private enum At { LINE, NUMBER, BEHIND_NUMBER, ONE, SIGN, TESTED, BEHIND_ONE }

        final List<String> sorts = new ArrayList<>();
        final List<Integer> numbers = new ArrayList<>();
        final List<List<String>> conds = new ArrayList<>();
        int fault = -1;

        Text(String text) {
            At at = At.LINE;
            int open = 0;
            Matcher parts = PARTS.matcher(text);
            while (parts.find()) {
                String part = parts.group();
                At next = null;
                String sort = sorts.isEmpty() ? "" : sorts.get(sorts.size() - 1);
                List<String> cond = conds.isEmpty() ? null : conds.get(conds.size() - 1);
                boolean isNumber = part.matches("[0-9]{1,3}");
                switch (at) {
                    case LINE:
                        if (SORTS.contains(part) && sorts.size() < 10) {
                            sorts.add(part);
                            conds.add(new ArrayList<>());
                            next = part.equals("vote") ? At.BEHIND_NUMBER : At.NUMBER;
                            if (part.equals("vote")) numbers.add(-9);
                        }
                        break;
                    case NUMBER:
                        if (isNumber && (!sort.equals("rank") || Integer.parseInt(part) <= 9)) {
                            numbers.add(Integer.parseInt(part));
                            next = At.BEHIND_NUMBER;
                        }
                        break;
                    case BEHIND_NUMBER:
                        if (part.equals(";")) next = At.LINE;
                        if (part.equals("if") && List.of("ticket", "rank", "vote", "relief").contains(sort)) next = At.ONE;
                        break;
                    case ONE:
                        if (part.equals("not")) next = At.ONE;
                        if (part.equals("(") && open < 4) {
                            open++;
                            next = At.ONE;
                        }
                        if (FACTS.contains(part)) next = At.SIGN;
                        break;
                    case SIGN:
                        if (List.of("<", "=", ">").contains(part)) next = At.TESTED;
                        break;
                    case TESTED:
                        if (isNumber) next = At.BEHIND_ONE;
                        break;
                    default:
                        if (part.equals("and") || part.equals("or")) next = At.ONE;
                        if (part.equals(")") && open > 0) {
                            open--;
                            next = At.BEHIND_ONE;
                        }
                        if (part.equals(";") && open == 0) next = At.LINE;
                }
                if (next == null) {
                    fault = parts.start();
                    return;
                }
                if (at.ordinal() >= At.ONE.ordinal() && !part.equals(";")) cond.add(part);
                at = next;
            }
            if (at != At.LINE) fault = text.length();
        }

        static boolean isTrue(List<String> cond, Core.Home h) {
            List<List<String>> split = splitBy(cond, "or");
            if (split.size() > 1) return split.stream().anyMatch(part -> isTrue(part, h));
            split = splitBy(cond, "and");
            if (split.size() > 1) return split.stream().allMatch(part -> isTrue(part, h));
            if (cond.get(0).equals("not")) return !isTrue(cond.subList(1, cond.size()), h);
            if (cond.get(0).equals("(")) return isTrue(cond.subList(1, cond.size() - 1), h);
            int fact = h.fact(cond.get(0));
            int number = Integer.parseInt(cond.get(2));
            return cond.get(1).equals("<") ? fact < number : cond.get(1).equals("=") ? fact == number : fact > number;
        }

        private static List<List<String>> splitBy(List<String> cond, String word) {
            List<List<String>> split = new ArrayList<>();
            int open = 0;
            int from = 0;
            for (int i = 0; i < cond.size(); i++) {
                if (cond.get(i).equals("(")) open++;
                if (cond.get(i).equals(")")) open--;
                if (open == 0 && cond.get(i).equals(word)) {
                    split.add(cond.subList(from, i));
                    from = i + 1;
                }
            }
            split.add(cond.subList(from, cond.size()));
            return split;
        }

        int first(String sort, Core.Home h) {
            for (int i = 0; i < sorts.size(); i++) {
                if (sorts.get(i).equals(sort) && (conds.get(i).isEmpty() || isTrue(conds.get(i), h))) return i;
            }
            return -1;
        }

        int number(String sort, Core.Home h, int without) {
            int i = first(sort, h);
            return i < 0 ? without : numbers.get(i);
        }
    }

    /** All that keep() keeps. */
    static final class Core {
        static final int NOWHERE = 99;

        static final class Home {
            int village, pit, mouths, garden, coal, will, larder, owes, hungry, cold;
            boolean back, evicted;

            int fact(String name) {
                switch (name) {
                    case "mouths": return mouths;
                    case "owes": return owes;
                    case "will": return will;
                    case "coal": return coal;
                    case "hungry": return hungry;
                    case "pit": return pit;
                    case "village": return village;
                    default: throw new IllegalArgumentException(name);
                }
            }

            Home copy() {
                Home h = new Home();
                h.village = village; h.pit = pit; h.mouths = mouths; h.garden = garden; h.coal = coal;
                h.will = will; h.larder = larder; h.owes = owes; h.hungry = hungry; h.cold = cold;
                h.back = back; h.evicted = evicted;
                return h;
            }
        }

        static final class Pit {
            int village, inflow, pumped, limit, water, lostOn = -1, want = 50;
        }

        static final class Shop {
            int village, credit, lent;
        }

        int day, villages, fund, stock, cold, burn, miles = 9, toldFund, toldStock;
        final java.util.Map<String, Integer> roads = new java.util.HashMap<>();
        final List<Pit> pits = new ArrayList<>();
        final List<Shop> shops = new ArrayList<>();
        final List<Home> homes = new ArrayList<>();
        final List<int[]> ships = new ArrayList<>();
        final List<int[]> news = new ArrayList<>();
        final List<int[]> papers = new ArrayList<>();
        final List<Integer> gates = new ArrayList<>();
        final List<Integer> men = new ArrayList<>();
        final List<int[]> clauses = new ArrayList<>();
        final Text[] texts = {new Text(""), new Text(""), new Text("")};

        private static boolean in(int v, int a, int b) { return v >= a && v <= b; }
        private boolean isVillage(int v) { return in(v, 0, villages - 1); }
        private boolean isHome(int h) { return in(h, 0, homes.size() - 1); }
        private boolean isPit(int p) { return in(p, 0, pits.size() - 1); }

        int roadBetween(int a, int b) {
            return a == b ? 0 : roads.getOrDefault(Math.min(a, b) + "-" + Math.max(a, b), 1);
        }

        int days(int n) {
            if (!in(n, 1, 60)) return -1;
            if (day + n > 999) return -4;
            for (int i = 0; i < n; i++) oneDay();
            return day;
        }

        private void oneDay() {
            day++;
            for (Pit p : pits) {
                if (p.lostOn >= 0) continue;
                p.water = Math.max(p.water + p.inflow - p.pumped * safety(), 0);
                if (p.water > p.limit) p.lostOn = day;
            }
            fund -= supper(day, homes, shops, fund, true);
            stock = Math.max(stock - burn, 0);
            for (int[] s : ships) if (s[0] == day) stock = Math.min(stock + s[1], 99999);
            ships.removeIf(s -> s[0] == day);
        }

        /** (2) and (3) of a day; what was drawn of the fund. */
        private int supper(int onDay, List<Home> who, List<Shop> where, int ofFund, boolean withNews) {
            int gone = 0;
            if (onDay % 7 == 0) {
                int[] drawn = share(who, ofFund);
                for (int i = 0; i < drawn.length; i++) {
                    gone += drawn[i];
                    Home h = who.get(i);
                    if (!h.back) h.larder = Math.min(999, h.larder + drawn[i] + texts[1].number("relief", h, 0));
                }
            }
            for (Home h : who) {
                if (h.back) continue;
                int need = h.mouths;
                for (int meal = 0; meal < h.mouths; meal++) {
                    if (meal < h.garden) {
                        need--;
                    } else if (h.larder > 0) {
                        h.larder--;
                        need--;
                    } else {
                        for (Shop s : where) {
                            if (s.village == h.village && s.lent < s.credit) {
                                s.lent++;
                                h.owes++;
                                need--;
                                break;
                            }
                        }
                    }
                }
                int change = 0;
                boolean chill = h.coal == 0 && cold == 1;
                if (h.coal > 0) h.coal--;
                if (need > 0) { h.hungry++; change -= 2; }
                if (chill) { h.cold++; change -= 1; }
                if (need == 0 && !chill) change = 1;
                if (withNews && !h.evicted) {
                    for (int[] n : news) {
                        int way = n[0] == h.village ? 1 : roadBetween(n[0], h.village);
                        if (n[2] + way == onDay) change += n[1];
                    }
                }
                h.will = Math.min(99, Math.max(0, h.will + change));
                if (h.will == 0) h.back = true;
            }
            return gone;
        }

        private int[] share(List<Home> who, int ofFund) {
            int[] drawn = new int[who.size()];
            int left = ofFund;
            for (int rank = 0; rank <= 9; rank++) {
                List<Integer> those = new ArrayList<>();
                int want = 0;
                for (int i = 0; i < who.size(); i++) {
                    if (!who.get(i).back && texts[0].number("rank", who.get(i), 9) == rank) {
                        those.add(i);
                        want += ticket(who.get(i));
                    }
                }
                if (want <= left) {
                    for (int i : those) drawn[i] = ticket(who.get(i));
                    left -= want;
                    continue;
                }
                int rest = left;
                for (int i : those) {
                    drawn[i] = (int) Math.floor((double) left * ticket(who.get(i)) / want);
                    rest -= drawn[i];
                }
                while (rest > 0) {
                    for (int i : those) {
                        if (rest > 0 && drawn[i] < ticket(who.get(i))) {
                            drawn[i]++;
                            rest--;
                        }
                    }
                }
                return drawn;
            }
            return drawn;
        }

        private int ticket(Home h) { return texts[0].number("ticket", h, 0); }

        int village() { return villages == 6 ? -2 : villages++; }

        int road(int a, int b, int n) {
            if (!isVillage(a) || !isVillage(b) || a == b || !in(n, 1, 9)) return -1;
            int was = roadBetween(a, b);
            roads.put(Math.min(a, b) + "-" + Math.max(a, b), n);
            return was;
        }

        int pit(int village, int inflow, int pumped, int limit) {
            if (!isVillage(village) || !in(inflow, 1, 50) || !in(pumped, 0, 50) || !in(limit, 1, 9999)) return -1;
            if (pits.size() == 4) return -2;
            Pit p = new Pit();
            p.village = village; p.inflow = inflow; p.pumped = pumped; p.limit = limit;
            pits.add(p);
            return pits.size() - 1;
        }

        int shop(int village, int credit) {
            if (!isVillage(village) || !in(credit, 0, 999)) return -1;
            if (shops.size() == 4) return -2;
            Shop s = new Shop();
            s.village = village; s.credit = credit;
            shops.add(s);
            return shops.size() - 1;
        }

        int household(int village, int pit, int mouths, int how, int will) {
            if (!isVillage(village) || !isPit(pit) || !in(mouths, 1, 9) || !in(how, 0, 9999) || !in(will, 0, 99)) return -1;
            if (homes.size() == 16) return -2;
            String digits = String.format("%04d", how);
            Home h = new Home();
            h.village = village; h.pit = pit; h.mouths = mouths; h.will = will;
            h.garden = Integer.parseInt(digits.substring(0, 1));
            h.coal = Integer.parseInt(digits.substring(1, 3));
            homes.add(h);
            return homes.size() - 1;
        }

        int of(int i, int what) {
            if (!isHome(i) || !in(what, 0, 15)) return -1;
            Home h = homes.get(i);
            return new int[] {h.village, h.pit, h.mouths, h.garden, h.coal, h.will, h.larder, h.owes, h.hungry, h.cold,
                h.back ? 1 : 0, h.evicted ? 1 : 0, ticket(h), texts[0].number("rank", h, 9),
                texts[1].number("relief", h, 0), mayVote(h) ? 1 : 0}[what];
        }

        private boolean mayVote(Home h) {
            return !texts[0].sorts.contains("vote") || texts[0].first("vote", h) >= 0;
        }

        private int safety() {
            return Math.min(texts[0].number("safety", null, 0), texts[2].number("safety", null, 0));
        }

        int pitOf(int i, int what) {
            if (!isPit(i) || !in(what, 0, 4)) return -1;
            Pit p = pits.get(i);
            if (what == 2) return p.lostOn < 0 ? -3 : p.lostOn;
            int more = 0;
            int water = p.water;
            while (what == 4 && p.lostOn < 0 && more < 500) {
                water = Math.max(0, water + p.inflow - p.pumped * safety());
                if (water > p.limit) break;
                more++;
            }
            return new int[] {p.village, p.water, 0, p.want, more}[what];
        }

        int shopOf(int i, int what) {
            if (!in(i, 0, shops.size() - 1) || !in(what, 0, 2)) return -1;
            Shop s = shops.get(i);
            return what == 0 ? s.village : what == 1 ? s.credit : s.lent;
        }

        int set(int what, int v) {
            int was;
            if (what == 0 && in(v, 0, 1)) { was = cold; cold = v; return was; }
            if (what == 1 && in(v, 0, 999)) { was = burn; burn = v; return was; }
            if (what == 2 && in(v, 0, 9)) { was = miles; miles = v; return was; }
            if (what >= 10 && isPit(what - 10) && in(v, 0, 900)) {
                was = pits.get(what - 10).want;
                pits.get(what - 10).want = v;
                return was;
            }
            return -1;
        }

        int gift(boolean toFund, int n) {
            if (!in(n, 1, 9999)) return -1;
            if (toFund) return fund = Math.min(fund + n, 99999);
            return stock = Math.min(stock + n, 99999);
        }

        int ship(int onDay, int n) {
            if (!in(n, 1, 9999) || !in(onDay, day + 1, 999)) return -1;
            if (ships.size() == 6) return -2;
            ships.add(new int[] {onDay, n});
            return ships.size();
        }

        int readText(int side, String text) {
            Text t = new Text(text);
            if (t.fault >= 0) return -100 - t.fault;
            texts[side] = t;
            return t.sorts.size();
        }

        int line(int side, int i, int what) {
            if (!in(side, 0, 2) || !in(i, 0, texts[side].sorts.size() - 1) || !in(what, 0, 2)) return -9;
            Text t = texts[side];
            return what == 0 ? Text.SORTS.indexOf(t.sorts.get(i)) : what == 1 ? t.numbers.get(i) : t.conds.get(i).isEmpty() ? 0 : 1;
        }

        int rule(int what) {
            if (what == 0) return texts[0].number("quorum", null, 50);
            if (what == 1) return safety();
            return what == 2 ? texts[2].number("evict", null, 12) : -1;
        }

        int why(int h, int what) {
            if (!isHome(h) || !in(what, 0, 2)) return -1;
            int found = what == 2 ? texts[1].first("relief", homes.get(h))
                : texts[0].first(what == 0 ? "ticket" : "rank", homes.get(h));
            return found < 0 ? -3 : found;
        }

        int news(int village, int weight) {
            if (!isVillage(village) || !in(weight, -20, 20)) return -1;
            if (news.size() == 12) return -2;
            news.add(new int[] {village, weight, day});
            return news.size() - 1;
        }

        int hears(int h, int n) {
            if (!isHome(h) || !in(n, 0, news.size() - 1)) return -1;
            int way = roadBetween(news.get(n)[0], homes.get(h).village);
            return news.get(n)[2] + Math.max(1, way);
        }

        int press(boolean ofFund) { return ofFund ? (toldFund = fund) : (toldStock = stock); }

        int paper(int h) {
            if (!isHome(h)) return -1;
            if (homes.get(h).evicted || homes.get(h).back) return -4;
            if (papers.size() == 12) return -2;
            papers.add(new int[] {h, day, 0});
            return papers.size() - 1;
        }

        int evict(int i) {
            if (!in(i, 0, papers.size() - 1)) return -1;
            int[] paper = papers.get(i);
            Home h = homes.get(paper[0]);
            if (h.evicted || h.back) return -4;
            int over = day - paper[1] - 7 * rule(2);
            if (over > 0) paper[2] = 1;
            if (paper[2] == 1) return 2;
            if (over < 0) return 0;
            h.evicted = true;
            h.garden = 0;
            return 1;
        }

        int draws(int h) { return isHome(h) ? share(homes, fund)[h] : -1; }

        int least(int n) {
            if (!in(n, 0, 9)) return -1;
            int low = -1;
            int high = 20000;
            while (high - low > 1) {
                int half = (low + high) / 2;
                if (suffices(n, half)) high = half;
                else low = half;
            }
            return high;
        }

        private boolean suffices(int rank, int gift) {
            int[] drawn = share(homes, fund + gift);
            for (int i = 0; i < drawn.length; i++) {
                Home h = homes.get(i);
                if (!h.back && texts[0].number("rank", h, 9) <= rank && drawn[i] < ticket(h)) return false;
            }
            return true;
        }

        int last(int what) {
            if (what == 0 || what == 2) return valleyLasts(what == 0 ? fund : toldFund);
            if (what == 1 || what == 3) {
                int left = what == 1 ? stock : toldStock;
                int d = 0;
                while (left > 0 && d < 120) {
                    d++;
                    left = Math.max(0, left - burn);
                    for (int[] s : ships) if (what == 1 && s[0] == day + d) left = Math.min(99999, left + s[1]);
                }
                return d;
            }
            return -1;
        }

        private int valleyLasts(int withFund) {
            List<Home> who = new ArrayList<>();
            for (Home h : homes) who.add(h.copy());
            List<Shop> where = new ArrayList<>();
            for (Shop s : shops) {
                Shop copy = new Shop();
                copy.village = s.village; copy.credit = s.credit; copy.lent = s.lent;
                where.add(copy);
            }
            int left = withFund;
            int d = 0;
            while (d < 120 && who.stream().filter(h -> !h.back).count() * 2 >= who.size()) {
                d++;
                left -= supper(day + d, who, where, left, false);
            }
            return d;
        }

        int post(boolean man, int village) {
            if (!isVillage(village)) return -1;
            List<Integer> to = man ? men : gates;
            if (to.size() == (man ? 8 : 4)) return -2;
            to.add(village);
            return to.size() - 1;
        }

        /** Tries every shift there is; null: none is a watch. */
        int[] bestShift() {
            int[] best = null;
            int[] bestMarks = null;
            int shifts = 1;
            for (int i = 0; i < men.size(); i++) shifts *= gates.size() + 1;
            int[] shift = new int[men.size()];
            for (int number = 0; number < shifts; number++) {
                int rest = number;
                for (int m = 0; m < shift.length; m++) {
                    int gate = rest % (gates.size() + 1);
                    shift[m] = gate == gates.size() ? NOWHERE : gate;
                    rest /= gates.size() + 1;
                }
                int[] marks = marksOf(shift);
                if (marks != null && (best == null || isBetter(marks, shift, bestMarks, best))) {
                    best = shift.clone();
                    bestMarks = marks;
                }
            }
            return best;
        }

        private int[] marksOf(int[] shift) {
            int guarded = 0;
            int at = 0;
            int walks = 0;
            for (int m = 0; m < shift.length; m++) {
                if (shift[m] == NOWHERE) continue;
                int walk = roadBetween(men.get(m), gates.get(shift[m]));
                if (walk > miles) return null;
                guarded |= 1 << shift[m];
                at++;
                walks += walk;
            }
            return guarded == (1 << gates.size()) - 1 ? new int[] {at, walks} : null;
        }

        private static boolean isBetter(int[] marks, int[] shift, int[] bestMarks, int[] best) {
            int by = java.util.Arrays.compare(marks, bestMarks);
            return by != 0 ? by < 0 : java.util.Arrays.compare(shift, best) < 0;
        }

        int clause(int cost) {
            if (!in(cost, 0, 99)) return -1;
            if (clauses.size() == 9) return -2;
            clauses.add(new int[] {cost, 0, 0, 0, 0});
            return clauses.size() - 1;
        }

        int worth(int c, int p, int v) {
            if (!in(c, 0, clauses.size() - 1) || !isPit(p) || !in(v, 0, 99)) return -1;
            int was = clauses.get(c)[1 + p];
            clauses.get(c)[1 + p] = v;
            return was;
        }

        int ballot(int set, int what) {
            if (set < 0 || set >= 1 << clauses.size() || !in(what, 0, 4)) return -1;
            int[] sums = new int[5];
            for (int c = 0; c < clauses.size(); c++) {
                for (int k = 0; k < 5; k++) if ((set >> c & 1) == 1) sums[k] += clauses.get(c)[k];
            }
            int content = 0;
            for (int p = 0; p < pits.size(); p++) if (sums[1 + p] >= pits.get(p).want) content |= 1 << p;
            int yes = 0;
            int no = 0;
            for (Home h : homes) {
                if (h.back || !mayVote(h)) continue;
                boolean says = h.will < 10 || h.will <= 90 && (content >> h.pit & 1) == 1;
                if (says) yes++;
                else no++;
            }
            boolean carried = yes > no && 100 * (yes + no) >= rule(0) * homes.size();
            return new int[] {yes, no, carried ? 1 : 0, content, sums[0]}[what];
        }

        int offer() {
            int best = -3;
            for (int set = (1 << clauses.size()) - 1; set >= 0; set--) {
                if (ballot(set, 2) == 1 && (best < 0 || ballot(set, 4) <= ballot(best, 4))) best = set;
            }
            return best;
        }

        int many(int what) {
            int back = 0;
            for (Home h : homes) if (h.back) back++;
            int[] counts = {day, villages, pits.size(), shops.size(), homes.size(), news.size(), papers.size(),
                ships.size(), fund, stock, gates.size(), men.size(), -1, clauses.size(), -1, -1, back};
            return in(what, 0, 16) ? counts[what] : -1;
        }
    }
}
