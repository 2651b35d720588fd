import java.util.Random;

/** Random texts of rules: most are right, some have a wrong number, too many parts, or a byte or token amiss. */
final class TextMaker {
    private static final String[] DEEDS = {"pay", "pay", "pay", "less", "months", "crown", "take", "stop"};
    private static final String[] SUBJECTS = {"rank", "served", "kin", "season", "had"};
    private static final String[] STRAYS = {"if", "and", "not", ":", ";", "<", "=", "12345", "7", "pay", "stop", "famine",
        "x", "\t", "\u0000", "\u00e9", "A", "rank", "-", "paypay", "hadnot"};

    private final Random random;
    private final StringBuilder text = new StringBuilder();

    private TextMaker(Random random) {
        this.random = random;
    }

    static String make(Random random) {
        TextMaker maker = new TextMaker(random);
        int lines = random.nextInt(12) == 0 ? 14 + random.nextInt(5) : random.nextInt(7);
        for (int i = 0; i < lines; i++) {
            maker.line(lines > 9);
        }
        if (random.nextInt(4) == 0) {
            maker.spoil();
        }
        String made = maker.text.toString();
        return made.length() > 400 ? made.substring(0, 400) : made;
    }

    private void line(boolean shortly) {
        if (random.nextInt(shortly ? 9 : 2) == 0) {
            int tests = random.nextInt(15) == 0 ? 4 + random.nextInt(2) : 1 + random.nextInt(3);
            text.append("if ");
            for (int i = 0; i < tests; i++) {
                text.append(i == 0 ? "" : " and ");
                test();
            }
            text.append(random.nextBoolean() ? ":" : " : ");
        }
        String deed = DEEDS[random.nextInt(DEEDS.length)];
        text.append(deed);
        if (!deed.equals("stop")) {
            text.append(random.nextInt(3) == 0 ? "\n" : random.nextInt(3) == 0 ? "" : " ").append(amount(deed));
        }
        text.append(random.nextInt(3) == 0 ? "; " : ";");
    }

    private int amount(String deed) {
        if (random.nextInt(40) == 0) {
            return random.nextInt(200);
        }
        return switch (deed) {
            case "months" -> 1 + random.nextInt(12);
            case "less", "crown" -> random.nextInt(101);
            case "take" -> 50 + random.nextInt(101);
            default -> random.nextInt(random.nextBoolean() ? 100 : 3000);
        };
    }

    private void test() {
        text.append(random.nextInt(4) == 0 ? "not " : "");
        if (random.nextInt(5) == 0) {
            text.append("famine");
            return;
        }
        String subject = SUBJECTS[random.nextInt(SUBJECTS.length)];
        int limit = subject.equals("rank") ? 10 : subject.equals("kin") ? 5 : subject.equals("season") ? 2 : 4;
        text.append(subject).append("<>=".charAt(random.nextInt(3))).append(random.nextInt(limit));
    }

    private void spoil() {
        int at = random.nextInt(text.length() + 1);
        int how = random.nextInt(4);
        if (how == 0) {
            text.setLength(at);
        } else if (how == 1 && at < text.length()) {
            text.deleteCharAt(at);
        } else if (how == 2 && at < text.length()) {
            text.setCharAt(at, (char) random.nextInt(256));
        } else {
            text.insert(at, STRAYS[random.nextInt(STRAYS.length)]);
        }
    }
}
