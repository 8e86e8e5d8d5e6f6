import java.util.ArrayList;
import java.util.List;

/** Long runs of calls, drawn by a fixed seed, each answered by the class as by Model. */
public final class MirrorTest {
    private static final Check CHECK = new Check("MirrorTest");
    private static final String[] CALLS = {"person", "person", "level", "order", "share", "many", "done", "prepare", "prepare",
        "prepare", "steam", "swap", "forge", "forge", "opens", "year", "year", "undo", "undo", "redo", "odds", "odds", "life", "life",
        "hope", "hope", "able", "ready", "ready", "lost", "will", "first", "rings", "rings", "opening", "opening", "law", "law", "lies",
        "lies", "lies", "sign", "sign", "untell", "later", "meant", "meant", "likely", "ask", "image", "back", "about", "fault"};
    private static final String NAMES = "abcdefghijkl";
    /** Numbers at which an index, a shift or a sum could go wrong. */
    private static final int[] FAR = {Integer.MIN_VALUE, Integer.MIN_VALUE + 1, -1001, -100, -33, -32, -31, -2, -1, 0, 1, 6, 8, 15, 31, 32, 33,
        63, 64, 99, 100, 999, 1000, 1001, 1600, 1601, 99999, 100000, 100001, 1 << 30, Integer.MAX_VALUE - 1, Integer.MAX_VALUE};

    private long state;

    private MirrorTest(long seed) {
        state = seed * 2862933555777941757L + 3037000493L;
    }

    private int draw(int below) {
        state = state * 6364136223846793005L + 1442695040888963407L;
        return (int) ((state >>> 33) % below);
    }

    private boolean chance(int of) {
        return draw(of) == 0;
    }

    public static void main(String[] args) {
        int runs = args.length > 0 ? Integer.parseInt(args[0]) : 150;
        for (int run = 0; run < runs; run++) {
            new MirrorTest(run).run(run);
            new MirrorTest(run + 1000000).faults(run);
            new MirrorTest(run + 2000000).farNumbers(run);
        }
        CHECK.finish();
    }

    // ---- texts

    private String formula(int deep) {
        String[] units = {"level", "age", "year", "which", "" + draw(10), "" + draw(40), "" + draw(3), "" + draw(10000)};
        switch (deep <= 0 ? 0 : draw(9)) {
            case 1: return formula(deep - 1) + "+" + formula(deep - 1);
            case 2: return formula(deep - 1) + "-" + formula(deep - 1);
            case 3: return "(" + formula(deep - 1) + ")" + "*/%".charAt(draw(3)) + units[draw(units.length)];
            case 4: return "(" + formula(deep - 1) + ")";
            case 5: return formula(deep - 1) + " or " + formula(deep - 1);
            case 6: return formula(deep - 1) + " and not " + formula(deep - 1);
            case 7: return "(" + formula(deep - 2) + ")" + "<>=".charAt(draw(3)) + units[draw(units.length)];
            case 8: return units[draw(units.length)] + "*/%".charAt(draw(3)) + units[draw(units.length)];
            default: return units[draw(units.length)];
        }
    }

    private String teach() {
        switch (draw(6)) {
            case 0: return "";
            case 1: return "teach " + (1 + draw(3)) + ";";
            case 2: return "teach 3-level/" + (1 + draw(5)) + ";";
            case 3: return "teach (age+year)%" + (1 + draw(5)) + "+which;";
            default: return "teach " + formula(3) + ";";
        }
    }

    private String text() {
        StringBuilder text = new StringBuilder();
        int skills = chance(12) ? 0 : 1 + draw(4);
        int orders = skills == 0 ? 0 : 1 + draw(8);
        int parishes = 1 + draw(3);
        int persons = draw(10) == 0 ? draw(2) : 2 + draw(5);
        int open = 1 + draw(60);
        for (int i = 0; i < skills; i++) {
            text.append("skill ").append(NAMES.charAt(i)).append(";");
        }
        for (int i = 0; i < orders; i++) {
            text.append("order ").append(NAMES.charAt(i)).append(" asks ").append(NAMES.charAt(draw(skills)));
            text.append(" ").append(chance(3) ? draw(21) : draw(6));
            text.append(chance(2) ? " seal " + draw(3) : "").append(chance(2) ? " weight " + draw(3) : "");
            text.append(chance(3) ? "" : " worth " + (1 + draw(9))).append(";");
        }
        for (int i = 0; i < parishes; i++) {
            text.append("parish ").append(NAMES.charAt(i)).append(";");
            for (int order = 0; order < orders && !chance(8); order++) {
                text.append(chance(2) ? "" : "odds " + NAMES.charAt(i) + " " + NAMES.charAt(order) + " " + (1 + draw(9)) + ";");
            }
        }
        for (int i = 0; i < persons; i++) {
            int age = chance(4) ? draw(40) : Math.max(0, Math.min(39, open - draw(14)));
            text.append("person ").append(NAMES.charAt(i)).append(" of ").append(NAMES.charAt(draw(parishes))).append(" age ").append(age);
            for (int skill = 0; skill < skills; skill++) {
                text.append(chance(2) ? "" : " " + NAMES.charAt(skill) + " " + draw(chance(3) ? 21 : 5));
            }
            text.append(";");
        }
        List<String> pairs = new ArrayList<>();
        for (int i = draw(9); i > 0 && orders > 1; i--) {
            int order = draw(orders);
            String pair = "undoes " + NAMES.charAt(order) + " " + NAMES.charAt((order + 1 + draw(orders - 1)) % orders) + ";";
            if (!pairs.contains(pair)) {
                pairs.add(pair);
                text.append(pair);
            }
        }
        return text.append(teach()).append("open ").append(open).append(";draw ").append(draw(1000)).append(";").toString();
    }

    private String spoiled(String text) {
        String signs = "abz;()<>=+-*/% \n0129$";
        String[] words = {"skill", "order", "asks", "seal", "weight", "worth", "parish", "odds", "person", "of", "age", "undoes",
            "teach", "open", "draw", "or", "and", "not", "level", "year", "which", ";", "(", ")", "1", "21", "10", "40", "99999", "a", "b"};
        StringBuilder it = new StringBuilder(text);
        for (int i = 1 + draw(2); i > 0 && it.length() > 1; i--) {
            int at = draw(it.length());
            switch (draw(6)) {
                case 0: it.deleteCharAt(at); break;
                case 1: it.insert(at, signs.charAt(draw(signs.length()))); break;
                case 2: it.setCharAt(at, signs.charAt(draw(signs.length()))); break;
                case 3: it.insert(at, " " + words[draw(words.length)] + " "); break;
                case 4: it.setLength(at); break;
                default:
                    String[] lines = it.toString().split(";");
                    it.append(lines[draw(lines.length)]).append(";");
            }
        }
        return it.toString();
    }

    // ---- runs

    private void tell(FortyLetters x, Model model, String text, int run) {
        for (int from = 0; from < text.length(); from += 20) {
            int[] n = new int[5];
            for (int i = 0; i < 20 && from + i < text.length(); i++) {
                n[i / 4] |= text.charAt(from + i) << 24 - i % 4 * 8;
            }
            CHECK.due("run " + run + " feed", x.feed(n[0], n[1], n[2], n[3], n[4]), model.feed(n));
        }
        both(x, model, "end", text.length(), 0, 0, 0, run);
        both(x, model, "town", 0, 0, 0, 0, run);
        both(x, model, "fault", 0, 0, 0, 0, run);
        both(x, model, "fault", 1, 0, 0, 0, run);
    }

    private void faults(int run) {
        FortyLetters x = new FortyLetters();
        Model model = new Model();
        for (int i = 0; i < 12; i++) {
            String text = text();
            tell(x, model, text.length() < 1500 ? spoiled(text) : text, run);
            whole(x, model, run);
        }
    }

    /** All that is told of a TOWN, and all that is now. */
    private static void whole(FortyLetters x, Model model, int run) {
        for (int what = 0; what <= 14; what++) {
            both(x, model, "about", what, 0, 0, 0, run);
        }
        for (int i = 0; i < 8; i++) {
            for (int what = 0; what < 8; what++) {
                both(x, model, "person", i, what, 0, 0, run);
                both(x, model, "order", i, what, 0, 0, run);
                both(x, model, "level", i, what, 0, 0, run);
                both(x, model, "share", i, what, 0, 0, run);
            }
        }
    }

    private void run(int run) {
        FortyLetters x = new FortyLetters();
        Model model = new Model();
        String text = text();
        tell(x, model, text, run);
        int calls = 500 - text.length() / 20;
        for (int i = 0; i < calls; i++) {
            String name = CALLS[draw(CALLS.length)];
            if (name.equals("opening") && chance(2)) {
                both(x, model, name, draw(64), 0, 0, 0, run);
            } else if (name.equals("will")) {
                both(x, model, name, draw(7), draw(64) - 1, 0, 0, run);
            } else if (name.equals("about")) {
                both(x, model, name, draw(17) - 1, 0, 0, 0, run);
            } else if (name.equals("opens") || name.equals("year")) {
                // else all would be OPENED soon
                if (chance(4)) {
                    both(x, model, name, draw(7), 0, 0, 0, run);
                }
            } else {
                both(x, model, name, draw(8) - (chance(6) ? 1 : 0), draw(6) - (chance(4) ? 1 : 0), draw(4), draw(2), run);
            }
        }
        whole(x, model, run);
    }

    /** Every call with numbers that may be far from all that can be. */
    private void farNumbers(int run) {
        FortyLetters x = new FortyLetters();
        Model model = new Model();
        if (!chance(8)) {
            tell(x, model, text(), run);
        }
        for (int i = 0; i < 400; i++) {
            String name = chance(20) ? "end" : CALLS[draw(CALLS.length)];
            both(x, model, name, near(), near(), near(), draw(2), run);
        }
        whole(x, model, run);
    }

    private int near() {
        return chance(2) ? FAR[draw(FAR.length)] : draw(6);
    }

    private static void both(FortyLetters x, Model model, String name, int a, int b, int c, int d, int run) {
        String call = "run " + run + ": " + name + "(" + a + ", " + b + ", " + c + ", " + d + ")";
        CHECK.due(call, answer(x, name, a, b, c, d), model.call(name, a, b, c, d));
        if (name.equals("life") || name.equals("rings") || name.equals("opening")) {
            for (int i = 0; i <= 6; i++) {
                CHECK.due(call + " lies(" + i + ")", x.lies(i), model.call("lies", i, 0, 0, 0));
            }
        }
    }

    private static int answer(FortyLetters x, String name, int a, int b, int c, int d) {
        switch (name) {
            case "end": return x.end(a);
            case "town": return x.town();
            case "fault": return x.fault(a);
            case "person": return x.person(a, b);
            case "level": return x.level(a, b);
            case "order": return x.order(a, b);
            case "share": return x.share(a, b);
            case "many": return x.many(a);
            case "done": return x.done();
            case "prepare": return x.prepare(a, b);
            case "steam": return x.steam(a);
            case "swap": return x.swap(a, b) ? 1 : 0;
            case "forge": return x.forge(a, b);
            case "opens": return x.opens(a);
            case "year": return x.year();
            case "undo": return x.undo() ? 1 : 0;
            case "redo": return x.redo() ? 1 : 0;
            case "odds": return x.odds(a, b);
            case "life": return x.life(a);
            case "hope": return x.hope(a, b);
            case "able": return x.able(a);
            case "ready": return x.ready(a, b);
            case "lost": return x.lost(a);
            case "will": return x.will(a, b);
            case "first": return x.first(a);
            case "rings": return x.rings();
            case "opening": return x.opening(a);
            case "law": return x.law(a, b);
            case "lies": return x.lies(a);
            case "sign": return x.sign(a, b, c, d != 0);
            case "untell": return x.untell(a) ? 1 : 0;
            case "later": return x.later(a);
            case "meant": return x.meant(a, b);
            case "likely": return x.likely(a, b);
            case "ask": return x.ask(a, b, c);
            case "image": return x.image(a);
            case "back": return x.back(a);
            default: return x.about(a);
        }
    }
}
