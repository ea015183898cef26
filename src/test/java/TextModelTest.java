import java.util.ArrayList;
import java.util.List;
import java.util.Random;

/** Promises 5, 6 and 23: texts by chance, read a second time by a plain reader that cuts the text into things first. */
final class TextModelTest {
    private static final String BATHS = "wash|stone|bleach|rinse";
    private static final String[] THINGS = {"wash", "stone", "bleach", "rinse", "bears", "pours", "to", "away", "litres",
        "minutes", "again", "times", "with", "pack", "band", "x", "washe", "ton", ";", ";", ";", " ", "  ", ",", "0", "1",
        "5", "20", "21", "60", "61", "100", "101", "007", "0007", "A", "{", "`", "/", ":", "\t"};
    private static final String[] BATH_TEXTS = {"wash 5", "stone 20", "bleach 01", "rinse", "wash 1", "bleach 19"};
    private static final String[] RULE_TEXTS = {"bears wash 100", "bears rinse 0", "pours stone to 4", "pours bleach away",
        "litres 20", "minutes wash 60", "minutes rinse 1", "again 5 times with stone 20", "again 0 times with wash 1",
        "pack 20", "pack 001", "band 50", "band 0"};

    private record Thing(int place, String text) {
    }

    private final List<Thing> things = new ArrayList<>();
    private int at = 0;
    /** The first wrong byte, -1 as long as there is none. */
    private int wrong = -1;

    public static void main(String[] args) {
        Random random = new Random(11);
        int right = 0;
        for (int run = 0; run < 60000; run++) {
            boolean house = random.nextBoolean();
            String text = byChance(random, house);
            TextModelTest model = new TextModelTest(text);
            int count = model.read(house);
            right += count >= 0 ? 1 : 0;
            TrouserWash x = new TrouserWash();
            Check.put(x, text);
            Object got;
            try {
                got = house ? x.house() : x.recipe();
            } catch (IllegalArgumentException e) {
                got = -1;
            }
            Check.is("'" + text + "'", got, count);
            Check.is("fault of '" + text + "'", x.fault(), model.wrong);
        }
        Check.is("right and wrong texts came", right > 6000 && right < 54000, true);
        System.out.println("right texts: " + right);
        Check.done("TextModelTest");
    }

    /** A right text, in which now and then a thing is changed, left out or put in, or which is cut. */
    private static String byChance(Random random, boolean house) {
        String[] parts = house ? RULE_TEXTS : BATH_TEXTS;
        int size = random.nextInt(8) == 0 ? (house ? 23 : 19) + random.nextInt(3) : random.nextInt(5);
        StringBuilder text = new StringBuilder();
        for (int i = 0; i < size; i++) {
            text.append(i == 0 ? "" : ";").append(" ".repeat(random.nextInt(6) / 5)).append(parts[random.nextInt(parts.length)]);
        }
        for (int changes = random.nextInt(3); changes > 0; changes--) {
            int place = random.nextInt(text.length() + 1);
            int end = Math.min(text.length(), place + random.nextInt(3));
            text.replace(place, end, random.nextInt(3) == 0 ? "" : THINGS[random.nextInt(THINGS.length)]);
        }
        if (random.nextInt(6) == 0) {
            text.setLength(random.nextInt(text.length() + 1));
        }
        text.setLength(Math.min(400, text.length()));
        return text.toString();
    }

    private TextModelTest(String text) {
        int i = 0;
        while (i < text.length()) {
            int end = i + 1;
            String kind = kindOf(text.charAt(i));
            while (!kind.isEmpty() && end < text.length() && kindOf(text.charAt(end)).equals(kind)) {
                end++;
            }
            if (text.charAt(i) != ' ') {
                things.add(new Thing(i, text.substring(i, end)));
            }
            i = end;
        }
        things.add(new Thing(text.length(), ""));
    }

    private static String kindOf(char c) {
        return c >= 'a' && c <= 'z' ? "word" : c >= '0' && c <= '9' ? "number" : "";
    }

    /** How many BATHS or RULES there are, or -1 if the text is wrong. */
    private int read(boolean house) {
        if (next().isEmpty()) {
            return 0;
        }
        int count = 0;
        do {
            if (count == (house ? 24 : 20)) {
                refuse();
                return -1;
            }
            count++;
            boolean fits = house ? rule() : bath();
            if (!fits) {
                return -1;
            }
        } while (isTaken(";"));
        return next().isEmpty() ? count : refuse() ? count : -1;
    }

    private String next() {
        return things.get(at).text();
    }

    private boolean refuse() {
        wrong = things.get(at).place();
        return false;
    }

    private boolean isTaken(String pattern) {
        if (next().matches(pattern)) {
            at++;
            return true;
        }
        return false;
    }

    private boolean must(String pattern) {
        return isTaken(pattern) || refuse();
    }

    private boolean number(int digits, int least, int most) {
        String text = next();
        if (text.matches("[0-9]{1," + digits + "}") && Integer.parseInt(text) >= least && Integer.parseInt(text) <= most) {
            at++;
            return true;
        }
        return refuse();
    }

    private boolean bath() {
        if (isTaken("rinse")) {
            return true;
        }
        return must("wash|stone|bleach") && number(2, 1, 20);
    }

    private boolean rule() {
        if (isTaken("bears")) {
            return must(BATHS) && number(3, 0, 100);
        }
        if (isTaken("minutes")) {
            return must(BATHS) && number(3, 1, 60);
        }
        if (isTaken("pours")) {
            return must(BATHS) && (isTaken("away") || must("to") && number(3, 0, 4));
        }
        if (isTaken("again")) {
            return number(3, 0, 5) && must("times") && must("with") && must("wash|stone|bleach") && number(3, 1, 20);
        }
        if (isTaken("band")) {
            return number(3, 0, 50);
        }
        return must("litres|pack") && number(3, 1, 20);
    }
}
