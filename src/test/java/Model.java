import java.util.ArrayDeque;
import java.util.ArrayList;
import java.util.Arrays;
import java.util.Deque;
import java.util.HashMap;
import java.util.LinkedHashMap;
import java.util.List;
import java.util.Map;
import java.util.Set;
import java.util.regex.Matcher;
import java.util.regex.Pattern;

/**
 * A second writing of the document, slow and plain: every look ahead is done by living the years on a copy,
 * every search by trying all. MirrorTest holds the class against it.
 */
final class Model {
    static final class Fault extends RuntimeException {
        private static final long serialVersionUID = 1L;
        final int number;
        final int place;

        Fault(int number, int place) {
            super("FAULT " + number + " at " + place);
            this.number = number;
            this.place = place;
        }
    }

    interface Expr {
        int of(int level, int age, int year, int which);
    }

    record Token(char sort, String text, int place) {
    }

    static final class Order {
        int skill;
        final Map<String, Integer> numbers = new HashMap<>(Map.of("seal", 0, "weight", 0, "worth", 1));
    }

    static final class Someone implements Cloneable {
        int parish;
        int age;
        int[] levels = new int[4];
        int prepares = -1;
        int held = -1;
        int how = 0;

        Someone copy() {
            try {
                Someone other = (Someone) clone();
                other.levels = levels.clone();
                return other;
            } catch (CloneNotSupportedException e) {
                throw new IllegalStateException(e);
            }
        }
    }

    static final class Text {
        final Map<String, Integer> skills = new LinkedHashMap<>();
        final Map<String, Integer> orderNames = new LinkedHashMap<>();
        final Map<String, Integer> parishes = new LinkedHashMap<>();
        final Map<String, Integer> personNames = new LinkedHashMap<>();
        final List<Order> orders = new ArrayList<>();
        final List<Someone> persons = new ArrayList<>();
        final List<List<Integer>> undoes = new ArrayList<>();
        final Map<List<Integer>, Integer> odds = new HashMap<>();
        Expr teach = null;
        int units = 0;
        int open = 40;
        int draw = 0;
    }

    static final class World {
        List<Someone> persons = new ArrayList<>();
        int year = 0;

        World copy() {
            World other = new World();
            for (Someone one : persons) {
                other.persons.add(one.copy());
            }
            other.year = year;
            return other;
        }
    }

    record Sign(int person, int what, int number, boolean is, int from) {
    }

    private static final Set<String> KEPT = Set.of("skill", "order", "asks", "seal", "weight", "worth", "parish", "odds",
        "person", "of", "age", "undoes", "teach", "open", "draw", "or", "and", "not", "level", "year", "which");
    private static final Pattern TOKEN = Pattern.compile("[a-z]+|[0-9]+|[;()<>=+\\-*/%]|(?s:.)");

    private String tape = "";
    private Text told = new Text();
    private World world = new World();
    private int seed = 0;
    private final Deque<World> undoable = new ArrayDeque<>();
    private final Deque<World> redoable = new ArrayDeque<>();
    private final World[] boxes = new World[3];
    private final List<Sign> signs = new ArrayList<>();
    private final Map<Integer, Integer> untold = new HashMap<>();
    private int time = 0;
    private int fault = 0;
    private int place = -1;
    private List<Integer> lying = new ArrayList<>();

    // ---- the text

    private List<Token> tokens;
    private int next;

    private static List<Token> cut(String text) {
        List<Token> list = new ArrayList<>();
        Matcher matcher = TOKEN.matcher(text);
        while (matcher.find()) {
            String piece = matcher.group();
            char head = piece.charAt(0);
            int behind = matcher.end();
            if (head == ' ' || head == '\n') {
                continue;
            }
            char sort = 's';
            if (head >= 'a' && head <= 'z') {
                sort = piece.length() > 8 ? 'x' : KEPT.contains(piece) ? 'k' : 'w';
            } else if (head >= '0' && head <= '9') {
                boolean touched = behind < text.length() && text.substring(behind, behind + 1).matches("[a-z]");
                sort = piece.length() > 4 || touched ? 'x' : 'n';
            } else if (";()<>=+-*/%".indexOf(head) < 0) {
                sort = 'x';
            }
            list.add(new Token(sort, piece, matcher.start()));
        }
        list.add(new Token('e', "", text.length()));
        return list;
    }

    private Token here() {
        return tokens.get(next);
    }

    private boolean at(String text) {
        return here().text.equals(text) && here().sort != 'x' && here().sort != 'e';
    }

    private Fault stray() {
        return new Fault(here().sort == 'x' ? 1 : 2, here().place);
    }

    private void expect(String text) {
        if (!at(text)) {
            throw stray();
        }
        next++;
    }

    private int number(int least, int most) {
        if (here().sort != 'n') {
            throw stray();
        }
        int value = Integer.parseInt(here().text);
        if (value < least || value > most) {
            throw new Fault(4, here().place);
        }
        next++;
        return value;
    }

    private void fresh(Map<String, Integer> names) {
        if (here().sort != 'w') {
            throw stray();
        }
        if (names.containsKey(here().text)) {
            throw new Fault(3, here().place);
        }
        names.put(here().text, names.size());
        next++;
    }

    private int known(Map<String, Integer> names) {
        if (here().sort != 'w') {
            throw stray();
        }
        Integer index = names.get(here().text);
        if (index == null) {
            throw new Fault(5, here().place);
        }
        next++;
        return index;
    }

    private void room(int has, int most) {
        if (has >= most) {
            throw new Fault(2, here().place);
        }
        next++;
    }

    private Text parse(String text) {
        tokens = cut(text);
        next = 0;
        Text t = new Text();
        Map<String, Boolean> once = new HashMap<>();
        while (here().sort != 'e') {
            String word = here().sort == 'k' ? here().text : "";
            switch (word) {
                case "skill" -> {
                    room(t.skills.size(), 4);
                    fresh(t.skills);
                }
                case "order" -> parseOrder(t);
                case "parish" -> {
                    room(t.parishes.size(), 3);
                    fresh(t.parishes);
                }
                case "odds" -> {
                    next++;
                    int parish = known(t.parishes);
                    int order = known(t.orderNames);
                    if (t.odds.containsKey(List.of(parish, order))) {
                        throw new Fault(3, tokens.get(next - 1).place);
                    }
                    t.odds.put(List.of(parish, order), number(1, 9));
                }
                case "person" -> parsePerson(t);
                case "undoes" -> {
                    room(t.undoes.size(), 8);
                    List<Integer> pair = List.of(known(t.orderNames), known(t.orderNames));
                    if (pair.get(0).equals(pair.get(1)) || t.undoes.contains(pair)) {
                        throw new Fault(3, tokens.get(next - 1).place);
                    }
                    t.undoes.add(pair);
                }
                case "teach", "open", "draw" -> {
                    room(once.put(word, true) == null ? 0 : 1, 1);
                    if (word.equals("teach")) {
                        t.teach = e(t, 0);
                    } else if (word.equals("open")) {
                        t.open = number(1, 60);
                    } else {
                        t.draw = number(0, 999);
                    }
                }
                default -> throw stray();
            }
            expect(";");
        }
        return t;
    }

    private void parseOrder(Text t) {
        room(t.orders.size(), 8);
        fresh(t.orderNames);
        expect("asks");
        Order order = new Order();
        order.skill = known(t.skills);
        order.numbers.put("level", number(0, 20));
        for (String trait : List.of("seal", "weight", "worth")) {
            if (at(trait)) {
                next++;
                order.numbers.put(trait, number(trait.equals("worth") ? 1 : 0, 9));
            }
        }
        t.orders.add(order);
    }

    private void parsePerson(Text t) {
        room(t.persons.size(), 6);
        fresh(t.personNames);
        expect("of");
        Someone one = new Someone();
        one.parish = known(t.parishes);
        expect("age");
        one.age = number(0, 39);
        List<Integer> had = new ArrayList<>();
        while (here().sort == 'w') {
            int skill = known(t.skills);
            if (had.contains(skill)) {
                throw new Fault(3, tokens.get(next - 1).place);
            }
            had.add(skill);
            one.levels[skill] = number(0, 20);
        }
        t.persons.add(one);
    }

    private Expr e(Text t, int within) {
        Expr left = both(t, within);
        while (at("or")) {
            next++;
            Expr a = left;
            Expr b = both(t, within);
            left = (l, g, y, w) -> a.of(l, g, y, w) != 0 | b.of(l, g, y, w) != 0 ? 1 : 0;
        }
        return left;
    }

    private Expr both(Text t, int within) {
        Expr left = one(t, within);
        while (at("and")) {
            next++;
            Expr a = left;
            Expr b = one(t, within);
            left = (l, g, y, w) -> a.of(l, g, y, w) != 0 & b.of(l, g, y, w) != 0 ? 1 : 0;
        }
        return left;
    }

    private Expr one(Text t, int within) {
        if (at("not")) {
            if (within == 7) {
                throw stray();
            }
            next++;
            Expr a = one(t, within + 1);
            return (l, g, y, w) -> a.of(l, g, y, w) == 0 ? 1 : 0;
        }
        Expr a = sum(t, within);
        if (!at("<") && !at(">") && !at("=")) {
            return a;
        }
        char sign = here().text.charAt(0);
        next++;
        Expr b = sum(t, within);
        return (l, g, y, w) -> {
            int order = Integer.compare(a.of(l, g, y, w), b.of(l, g, y, w));
            return (sign == '<' ? order < 0 : sign == '>' ? order > 0 : order == 0) ? 1 : 0;
        };
    }

    private Expr sum(Text t, int within) {
        Expr left = term(t, within);
        while (at("+") || at("-")) {
            int sign = at("+") ? 1 : -1;
            next++;
            Expr a = left;
            Expr b = term(t, within);
            left = (l, g, y, w) -> (int) (a.of(l, g, y, w) + (long) sign * b.of(l, g, y, w));
        }
        return left;
    }

    private Expr term(Text t, int within) {
        Expr left = unit(t, within);
        while (at("*") || at("/") || at("%")) {
            char sign = here().text.charAt(0);
            next++;
            Expr a = left;
            Expr b = unit(t, within);
            left = (l, g, y, w) -> {
                long x = a.of(l, g, y, w);
                long z = b.of(l, g, y, w);
                return (int) (sign == '*' ? x * z : z == 0 ? 0 : sign == '/' ? x / z : x % z);
            };
        }
        return left;
    }

    private Expr unit(Text t, int within) {
        boolean bracket = at("(");
        boolean starts = bracket || here().sort == 'n' || at("level") || at("age") || at("year") || at("which");
        if (!starts || t.units == 30 || (bracket && within == 7)) {
            throw stray();
        }
        t.units++;
        String text = here().text;
        next++;
        if (bracket) {
            Expr inner = e(t, within + 1);
            expect(")");
            return inner;
        }
        return switch (text) {
            case "level" -> (l, g, y, w) -> l;
            case "age" -> (l, g, y, w) -> g;
            case "year" -> (l, g, y, w) -> y;
            case "which" -> (l, g, y, w) -> w;
            default -> (l, g, y, w) -> Integer.parseInt(text);
        };
    }

    // ---- what comes of a world

    private boolean can(Someone one, int order) {
        Order o = told.orders.get(order);
        return one.levels[o.skill] >= o.numbers.get("level");
    }

    private int oddsOf(Someone one, int order) {
        return told.odds.getOrDefault(List.of(one.parish, order), 0);
    }

    private int allOdds(Someone one) {
        int sum = 0;
        for (int order = 0; order < told.orders.size(); order++) {
            sum += oddsOf(one, order);
        }
        return sum;
    }

    private void open(World w, int person) {
        Someone one = w.persons.get(person);
        if (one.held < 0) {
            one.how = 4;
            return;
        }
        boolean undone = false;
        for (Someone other : w.persons) {
            undone |= other.how == 2 && told.undoes.contains(List.of(other.held, one.held));
        }
        one.how = can(one, one.held) && !undone ? 2 : 3;
    }

    private void study(World w, Someone one, int skill) {
        int gain = told.teach == null ? 1 : told.teach.of(one.levels[skill], one.age, w.year, skill);
        gain = gain < 0 ? 0 : gain > 9 ? 9 : gain;
        one.levels[skill] = Math.min(20, one.levels[skill] + gain);
    }

    private int live(World w) {
        int opened = 0;
        for (int person = 0; person < w.persons.size(); person++) {
            Someone one = w.persons.get(person);
            if (one.how > 1) {
                continue;
            }
            if (one.prepares >= 0) {
                study(w, one, one.prepares);
            }
            one.age++;
            if (one.age >= told.open) {
                open(w, person);
                opened++;
            }
        }
        w.year++;
        return opened;
    }

    private World behind(World w, int years) {
        World then = w.copy();
        for (int i = 0; i < years; i++) {
            live(then);
        }
        return then;
    }

    /** The person as he is when his LETTER is OPENED, preparing as told year by year. */
    private Someone whenOpened(int person, List<Integer> plan) {
        World w = world.copy();
        Someone one = w.persons.get(person);
        for (int i = 0; one.how < 2; i++) {
            if (plan != null) {
                one.prepares = plan.get(i);
            }
            live(w);
        }
        return one;
    }

    private int yearsTill(int person) {
        World w = world.copy();
        int years = 0;
        while (w.persons.get(person).how < 2) {
            live(w);
            years++;
        }
        return years;
    }

    /** Parts and wholes of what he knows, as {upper, lower}, not in lowest terms. */
    private int[] knows(int person, Someone then, boolean byWorth) {
        Someone one = world.persons.get(person);
        if (one.how == 1 && one.held >= 0) {
            return new int[] {can(then, one.held) ? (byWorth ? told.orders.get(one.held).numbers.get("worth") : 1) : 0, 1};
        }
        if (one.how == 1 || allOdds(one) == 0) {
            return new int[] {1, 1};
        }
        int sum = 0;
        for (int order = 0; order < told.orders.size(); order++) {
            int worth = byWorth ? told.orders.get(order).numbers.get("worth") : 1;
            sum += can(then, order) ? oddsOf(one, order) * worth : 0;
        }
        return new int[] {sum, allOdds(one)};
    }

    private static int lowest(int[] fraction, int part) {
        int divisor = 1;
        for (int d = 1; d <= fraction[1]; d++) {
            if (fraction[0] % d == 0 && fraction[1] % d == 0) {
                divisor = d;
            }
        }
        return fraction[part] / divisor;
    }

    private boolean person(int p) {
        return p >= 0 && p < world.persons.size();
    }

    private boolean closed(int p) {
        return person(p) && world.persons.get(p).how < 2;
    }

    private boolean order(int o) {
        return o >= 0 && o < told.orders.size();
    }

    private boolean skill(int s) {
        return s >= 0 && s < told.skills.size();
    }

    private void before() {
        undoable.addLast(world.copy());
        if (undoable.size() > 40) {
            undoable.removeFirst();
        }
        redoable.clear();
    }

    // ---- the calls

    int feed(int... numbers) {
        if (tape.length() + 20 > 1600) {
            return -1;
        }
        StringBuilder more = new StringBuilder();
        for (int number : numbers) {
            more.append((char) (number >> 24 & 255)).append((char) (number >> 16 & 255));
            more.append((char) (number >> 8 & 255)).append((char) (number & 255));
        }
        tape += more;
        return tape.length();
    }

    int end(int n) {
        if (n < 0 || n > tape.length()) {
            return -1;
        }
        tape = tape.substring(0, n);
        return n;
    }

    int town() {
        String text = tape;
        tape = "";
        try {
            told = parse(text);
        } catch (Fault f) {
            fault = f.number;
            place = f.place;
            return -1;
        }
        fault = 0;
        place = -1;
        world = new World();
        seed = told.draw;
        for (Someone one : told.persons) {
            Someone born = one.copy();
            world.persons.add(born);
            seed = (seed * 137 + 71) % 1000;
            List<Integer> lot = new ArrayList<>();
            for (int order = 0; order < told.orders.size(); order++) {
                lot.addAll(java.util.Collections.nCopies(oddsOf(one, order), order));
            }
            born.held = lot.isEmpty() ? -1 : lot.get(seed % lot.size());
        }
        undoable.clear();
        redoable.clear();
        signs.clear();
        untold.clear();
        lying = new ArrayList<>();
        Arrays.fill(boxes, null);
        return world.persons.size();
    }

    int call(String name, int a, int b, int c, int d) {
        switch (name) {
            case "end": return end(a);
            case "town": return town();
            case "fault": return a == 0 ? fault : a == 1 ? place : -1;
            case "person": return aboutPerson(a, b);
            case "level": return person(a) && skill(b) ? world.persons.get(a).levels[b] : -1;
            case "order": return aboutOrder(a, b);
            case "share": return a >= 0 && a < told.parishes.size() && order(b) ? told.odds.getOrDefault(List.of(a, b), 0) : -1;
            case "many": return a < 0 || a > 4 ? -1 : (int) world.persons.stream().filter(one -> one.how == a).count();
            case "done": return world.persons.stream().filter(one -> one.how == 2).mapToInt(one -> 1 << one.held).reduce(0, (x, y) -> x | y);
            case "prepare": return prepare(a, b);
            case "steam": return steam(a);
            case "swap": return swap(a, b);
            case "forge": return forge(a, b);
            case "opens": return opens(a);
            case "year": {
                before();
                return live(world);
            }
            case "undo": return wind(undoable, redoable);
            case "redo": return wind(redoable, undoable);
            case "odds": return closed(a) && (b == 0 || b == 1) ? lowest(knows(a, whenOpened(a, null), false), b) : -1;
            case "hope": return closed(a) && (b == 0 || b == 1) ? lowest(knows(a, whenOpened(a, null), true), b) : -1;
            case "life": return life(a);
            case "able": return able(a);
            case "ready": return ready(a, b);
            case "lost": return lost(a);
            case "will": return person(a) && b >= 0 && b <= 60 ? behind(world, b).persons.get(a).how : -1;
            case "first": return first(a);
            case "rings": return rings();
            case "opening": return opening(a);
            case "law": return law(a, b);
            case "lies": return a >= 0 && a < lying.size() ? lying.get(a) : -2;
            case "sign": return sign(a, b, c, d != 0);
            case "untell": return a >= 0 && a < signs.size() && untold.putIfAbsent(a, time) == null ? 1 : 0;
            case "later": return a < 0 || a > 1000 || time + a > 100000 ? -1 : (time += a);
            case "meant": return person(a) ? meant(a, b).stream().mapToInt(o -> 1 << o).sum() : -1;
            case "likely": return likely(a, b);
            case "ask": return ask(a, b, c);
            case "image": return image(a);
            case "back": return back(a);
            case "about": return about(a);
            default: throw new IllegalArgumentException(name);
        }
    }

    private int aboutPerson(int p, int what) {
        if (!person(p)) {
            return -2;
        }
        Someone one = world.persons.get(p);
        int can = 0;
        for (int order = 0; order < told.orders.size(); order++) {
            can += can(one, order) ? 1 << order : 0;
        }
        int[] all = {one.age, one.how, one.prepares, one.parish, one.held, can};
        return what < 0 || what > 5 ? -2 : all[what];
    }

    private int aboutOrder(int o, int what) {
        if (!order(o)) {
            return -1;
        }
        Map<String, Integer> numbers = told.orders.get(o).numbers;
        int undone = told.undoes.stream().filter(pair -> pair.get(0) == o).mapToInt(pair -> 1 << pair.get(1)).sum();
        int[] all = {told.orders.get(o).skill, numbers.get("level"), numbers.get("seal"), numbers.get("weight"),
            numbers.get("worth"), undone};
        return what < 0 || what > 5 ? -1 : all[what];
    }

    private int prepare(int p, int s) {
        if (!closed(p) || (s != -1 && !skill(s))) {
            return -2;
        }
        before();
        int was = world.persons.get(p).prepares;
        world.persons.get(p).prepares = s;
        return was;
    }

    private int steam(int p) {
        if (!person(p) || world.persons.get(p).how != 0) {
            return -2;
        }
        before();
        world.persons.get(p).how = 1;
        return world.persons.get(p).held;
    }

    private int swap(int p, int q) {
        if (!closed(p) || !closed(q) || p == q) {
            return 0;
        }
        before();
        Someone one = world.persons.get(p);
        Someone other = world.persons.get(q);
        int held = one.held;
        one.held = other.held;
        other.held = held;
        one.how = 0;
        other.how = 0;
        return 1;
    }

    private int forge(int p, int o) {
        if (!closed(p) || !order(o)) {
            return -2;
        }
        before();
        int was = world.persons.get(p).held;
        world.persons.get(p).held = o;
        world.persons.get(p).how = 1;
        return was;
    }

    private int opens(int p) {
        if (!closed(p)) {
            return -1;
        }
        before();
        open(world, p);
        return world.persons.get(p).how;
    }

    private int wind(Deque<World> from, Deque<World> to) {
        if (from.isEmpty()) {
            return 0;
        }
        to.addLast(world);
        world = from.removeLast();
        return 1;
    }

    private int life(int p) {
        lying = new ArrayList<>();
        if (!closed(p) || yearsTill(p) > 12) {
            return -1;
        }
        int years = yearsTill(p);
        List<List<Integer>> spreads = new ArrayList<>();
        spreads(new ArrayList<>(), years, spreads);
        int best = -1;
        for (List<Integer> spread : spreads) {
            List<Integer> plan = new ArrayList<>();
            for (int s = 0; s < spread.size(); s++) {
                plan.addAll(java.util.Collections.nCopies(spread.get(s), s));
            }
            int parts = knows(p, whenOpened(p, plan), false)[0];
            if (parts > best) {
                best = parts;
                lying = spread;
            }
        }
        return best;
    }

    private void spreads(List<Integer> head, int left, List<List<Integer>> all) {
        if (head.size() == told.skills.size()) {
            if (left == 0) {
                all.add(head);
            }
            return;
        }
        for (int years = 0; years <= left; years++) {
            List<Integer> longer = new ArrayList<>(head);
            longer.add(years);
            spreads(longer, left - years, all);
        }
    }

    private int able(int o) {
        if (!order(o)) {
            return -1;
        }
        int bits = 0;
        for (int p = 0; p < world.persons.size(); p++) {
            bits += closed(p) && can(world.persons.get(p), o) ? 1 << p : 0;
        }
        return bits;
    }

    private int ready(int p, int o) {
        if (!closed(p) || !order(o)) {
            return -1;
        }
        World w = world.copy();
        Someone one = w.persons.get(p);
        for (int years = 0; years <= 60; years++) {
            if (can(one, o)) {
                return years;
            }
            study(w, one, told.orders.get(o).skill);
            one.age++;
            w.year++;
        }
        return -1;
    }

    private int lost(int p) {
        if (!closed(p)) {
            return -1;
        }
        int bits = 0;
        for (int o = 0; o < told.orders.size(); o++) {
            boolean never = oddsOf(world.persons.get(p), o) > 0;
            for (int s = 0; s < told.skills.size(); s++) {
                never &= !can(whenOpened(p, java.util.Collections.nCopies(60, s)), o);
            }
            bits += never ? 1 << o : 0;
        }
        return bits;
    }

    private int first(int what) {
        for (int years = 1; years <= 60; years++) {
            World ahead = behind(world, years - 1);
            World then = behind(world, years);
            for (int p = 0; p < then.persons.size(); p++) {
                if (then.persons.get(p).how == 3 && ahead.persons.get(p).how != 3) {
                    return what == 0 ? p : what == 1 ? years : -1;
                }
            }
        }
        return -1;
    }

    private static void permute(List<Integer> head, List<Integer> left, List<List<Integer>> all) {
        if (left.isEmpty()) {
            all.add(head);
        }
        for (Integer one : left) {
            List<Integer> longer = new ArrayList<>(head);
            longer.add(one);
            List<Integer> rest = new ArrayList<>(left);
            rest.remove(one);
            permute(longer, rest, all);
        }
    }

    private int worth(Someone one, int order) {
        return order < 0 ? 1 : can(one, order) ? told.orders.get(order).numbers.get("worth") : 0;
    }

    private int rings() {
        List<Integer> closed = new ArrayList<>();
        for (int p = 0; p < world.persons.size(); p++) {
            if (closed(p)) {
                closed.add(p);
            }
        }
        List<List<Integer>> all = new ArrayList<>();
        permute(new ArrayList<>(), closed, all);
        int best = -1;
        for (List<Integer> way : all) {
            int sum = 0;
            boolean less = false;
            for (int i = 0; i < way.size(); i++) {
                Someone one = world.persons.get(closed.get(i));
                int worth = worth(one, world.persons.get(way.get(i)).held);
                less |= worth < worth(one, one.held);
                sum += worth;
            }
            if (!less && sum > best) {
                best = sum;
                lying = new ArrayList<>(java.util.Collections.nCopies(world.persons.size(), -1));
                for (int i = 0; i < way.size(); i++) {
                    lying.set(closed.get(i), way.get(i));
                }
            }
        }
        return best;
    }

    private int opening(int set) {
        lying = new ArrayList<>();
        List<Integer> members = new ArrayList<>();
        for (int p = 0; p < 32; p++) {
            if ((set >>> p & 1) == 1) {
                if (!closed(p)) {
                    return -1;
                }
                members.add(p);
            }
        }
        List<List<Integer>> all = new ArrayList<>();
        permute(new ArrayList<>(), members, all);
        int best = -1;
        for (List<Integer> way : all) {
            World w = world.copy();
            int done = 0;
            for (int p : way) {
                open(w, p);
                done += w.persons.get(p).how == 2 ? 1 : 0;
            }
            if (done > best) {
                best = done;
                lying = way;
            }
        }
        return best;
    }

    private int law(int o, int other) {
        if (o == other || !order(o) || !order(other)) {
            return -100;
        }
        World changed = world.copy();
        for (Someone one : changed.persons) {
            if (one.how < 2 && one.held == o) {
                one.held = other;
            }
        }
        long then = behind(changed, 60).persons.stream().filter(one -> one.how == 2).count();
        return (int) (then - behind(world, 60).persons.stream().filter(one -> one.how == 2).count());
    }

    private int sign(int p, int what, int number, boolean is) {
        if (!person(p) || what < 0 || what > 2 || number < 0 || number > 9 || signs.size() == 30) {
            return -1;
        }
        signs.add(new Sign(p, what, number, is, time));
        return signs.size() - 1;
    }

    private int seen(int o, int what) {
        Order one = told.orders.get(o);
        return what == 2 ? one.skill : one.numbers.get(what == 0 ? "seal" : "weight");
    }

    private List<Integer> meant(int p, int k) {
        List<Integer> all = new ArrayList<>();
        for (int o = 0; o < told.orders.size(); o++) {
            boolean fits = oddsOf(world.persons.get(p), o) > 0;
            for (int i = 0; i < signs.size(); i++) {
                Sign sign = signs.get(i);
                boolean counts = sign.person == p && sign.from <= k && !(untold.containsKey(i) && untold.get(i) <= k);
                fits &= !counts || (seen(o, sign.what) == sign.number) == sign.is;
            }
            if (fits) {
                all.add(o);
            }
        }
        return all;
    }

    private int likely(int p, int k) {
        int best = -1;
        for (int o : person(p) ? meant(p, k) : List.<Integer>of()) {
            Someone one = world.persons.get(p);
            best = best < 0 || oddsOf(one, o) > oddsOf(one, best) ? o : best;
        }
        return best;
    }

    private int ask(int p, int what, int k) {
        if (!person(p) || meant(p, k).isEmpty() || what < 0 || what > 1) {
            return -1;
        }
        int best = -1;
        int fewest = 99;
        for (int sort = 0; sort < 3; sort++) {
            Map<Integer, Integer> counts = new HashMap<>();
            for (int o : meant(p, k)) {
                counts.merge(seen(o, sort), 1, Integer::sum);
            }
            int left = java.util.Collections.max(counts.values());
            if (left < fewest) {
                best = sort;
                fewest = left;
            }
        }
        return what == 0 ? best : fewest;
    }

    private int image(int box) {
        if (box < 0 || box > 2) {
            return -1;
        }
        boxes[box] = world.copy();
        return world.year;
    }

    private int back(int box) {
        if (box < 0 || box > 2 || boxes[box] == null) {
            return -1;
        }
        world = boxes[box].copy();
        undoable.clear();
        redoable.clear();
        return world.year;
    }

    private int about(int what) {
        int[] all = {told.persons.size(), told.skills.size(), told.orders.size(), told.parishes.size(), told.undoes.size(),
            world.year, seed, told.open, undoable.size(), redoable.size(), signs.size(), time, tape.length(), told.units,
            lying.size()};
        return what < 0 || what >= all.length ? -1 : all[what];
    }
}
