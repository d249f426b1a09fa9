import java.util.Random;

/** TEXTS of both languages by draws, most of them right, some of them not. */
final class Texts {
    private final Random draw;
    private final boolean orders;
    private int depth;

    private Texts(Random draw, boolean orders) {
        this.draw = draw;
        this.orders = orders;
    }

    static String of(Random draw, boolean orders) {
        Texts t = new Texts(draw, orders);
        int clauses = draw.nextInt(12) == 0 ? 10 + draw.nextInt(5) : 1 + draw.nextInt(6);
        StringBuilder text = new StringBuilder(t.clause());
        for (int i = 1; i < clauses; i++) {
            text.append(draw.nextInt(4) == 0 ? " ; " : ";").append(t.clause());
        }
        if (draw.nextInt(16) == 0) {
            // About as many PARTS as a TEXT may have.
            text.append(orders ? ";sneeze 9" : ";tires 3").append("+1".repeat(40 + draw.nextInt(12)));
        }
        if (draw.nextInt(5) == 0) {
            t.spoil(text);
        }
        return text.length() > 400 ? text.substring(0, 400) : text.toString();
    }

    private void spoil(StringBuilder text) {
        String[] odd = {"if", " or ", "[", "]", "(", ")", ";", "=", "+", " ", "1001", "1000", "tired", "not ", "A", "\u00e9",
            "times 3", "times", "7", "other", "fit", "\u0000", "=1", "0"};
        for (int i = draw.nextInt(3); i >= 0; i--) {
            int at = draw.nextInt(text.length() + 1);
            if (draw.nextBoolean()) {
                text.insert(at, odd[draw.nextInt(odd.length)]);
            } else {
                text.delete(at, Math.min(text.length(), at + 1 + draw.nextInt(4)));
            }
        }
    }

    private String pick(String... these) {
        return these[draw.nextInt(these.length)];
    }

    private String clause() {
        String kind = orders ? pick("relieve", "relieve", "relieve", "sneeze", "pardon", "pass", "pass", "pass")
                : pick("tires", "rests", "notices", "notices", "bars");
        String text = kind;
        if (!kind.equals("bars") && !kind.equals("pass")) {
            text += " " + (orders && draw.nextInt(3) > 0 ? "" + draw.nextInt(5) : sum(2));
        }
        if (orders && draw.nextInt(4) == 0) {
            text += " times " + (draw.nextInt(30) == 0 ? draw.nextInt(30) : 1 + draw.nextInt(kind.equals("pass") ? 20 : 2));
        }
        if (draw.nextInt(3) > 0) {
            text += " if " + test(2);
        }
        return text;
    }

    private String test(int size) {
        String text = both(size);
        while (draw.nextInt(4) == 0) {
            text += " or " + both(size);
        }
        return text;
    }

    private String both(int size) {
        String text = plain(size);
        while (draw.nextInt(4) == 0) {
            text += " and " + plain(size);
        }
        return text;
    }

    private String plain(int size) {
        if (draw.nextInt(6) == 0) {
            return "not " + plain(size);
        }
        if (size > 0 && draw.nextInt(5) == 0) {
            return "(" + test(size - 1) + ")";
        }
        if (draw.nextInt(60) == 0) {
            int n = 6 + draw.nextInt(4);
            return "(".repeat(n) + "1=1" + ")".repeat(n);
        }
        return sum(size - 1) + pick("<", ">", "=", " = ", " < ") + sum(0);
    }

    private String sum(int size) {
        String text = term(size);
        while (draw.nextInt(3) == 0) {
            text += pick("+", "-", " - ") + term(size);
        }
        return text;
    }

    private String term(int size) {
        String text = part(size);
        while (draw.nextInt(4) == 0) {
            text += pick("*", "/", "%", "*") + part(size);
        }
        return text;
    }

    private String part(int size) {
        if (size > 0 && draw.nextInt(5) == 0) {
            return "[" + sum(size - 1) + "]";
        }
        if (draw.nextInt(80) == 0) {
            int n = 6 + draw.nextInt(4);
            return "[".repeat(n) + "1" + "]".repeat(n);
        }
        if (draw.nextInt(3) == 0) {
            return draw.nextInt(12) == 0 ? "" + (980 + draw.nextInt(22)) : "" + draw.nextInt(10);
        }
        if (orders) {
            return pick("hour", "done", "latest", "up", "held", "fit", "tired " + draw.nextInt(7), "up", "done");
        }
        return pick("man", "hold", "tired", "held", "other", "unlike", "hour", "weather", "tired", "unlike");
    }
}
