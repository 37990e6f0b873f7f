import java.util.Random;

/** Promise 4: the FAULT of a LAW is "the first byte at which no such TEXT can go on", by a grammar of the document's words. */
public final class LawFaultTest {
    private static final int NESTED = 6;
    private static final String SIGNS = "y:;vkglc0159?()[]!=<>+-*/&| x";
    private static final Check check = new Check();
    private static final Grammar laws = new Grammar("TEXT");

    public static void main(String[] args) {
        write();
        Random chance = new Random(20);
        for (int i = 0; i < 800; i++) {
            String text = text(chance);
            VelvetStates x = new VelvetStates();
            Check.feed(x, text);
            check.due("fault(1) of \"" + text + "\"", x.fault(1), laws.fault(text));
        }
        check.end("LawFaultTest");
    }

    private static void write() {
        laws.rule("TEXT", "B LAW");
        laws.rule("B", "");
        laws.rule("B", "B _");
        laws.rule("LAW", "CLAUSE");
        laws.rule("LAW", "LAW ; B CLAUSE");
        laws.rule("CLAUSE", "y B : B SUM0");
        laws.rule("CLAUSE", "y B : B CONDITION0 ? B SUM0");
        for (int d = 0; d <= NESTED; d++) {
            writeConditions("CONDITION" + d, "TRUTH" + d, "UNIT" + d, "SUM" + d);
            writeSums("SUM" + d, "TERM" + d, "ATOM" + d);
            if (d < NESTED) {
                laws.rule("UNIT" + d, "! B UNIT" + (d + 1));
                laws.rule("UNIT" + d, "( B CONDITION" + (d + 1) + " ) B");
                laws.rule("ATOM" + d, "[ B SUM" + (d + 1) + " ] B");
            }
        }
        for (String number : new String[] {"D", "D D", "D D D", "D D D D"}) {
            laws.rule("NUMBER", number);
        }
        for (int digit = 0; digit < 10; digit++) {
            laws.rule("D", "" + digit);
        }
    }

    private static void writeConditions(String condition, String truth, String unit, String sum) {
        laws.rule(condition, truth);
        laws.rule(condition, condition + " | B " + truth);
        laws.rule(truth, unit);
        laws.rule(truth, truth + " & B " + unit);
        for (String sign : new String[] {"=", "<", ">"}) {
            laws.rule(unit, sum + " " + sign + " B " + sum);
        }
    }

    private static void writeSums(String sum, String term, String atom) {
        laws.rule(sum, term);
        laws.rule(sum, sum + " + B " + term);
        laws.rule(sum, sum + " - B " + term);
        laws.rule(term, atom);
        laws.rule(term, term + " * B " + atom);
        laws.rule(term, term + " / B " + atom);
        laws.rule(atom, "NUMBER B");
        for (String letter : new String[] {"v", "k", "g", "l", "y", "c"}) {
            laws.rule(atom, letter + " B");
        }
    }

    // Signs by chance; most that can't go on are taken back, so that texts get far enough in.
    private static String text(Random chance) {
        StringBuilder text = new StringBuilder(chance.nextInt(3) == 0 ? "y:" : "");
        for (int deep = chance.nextInt(6) == 0 ? 4 + chance.nextInt(4) : 0; deep > 0; deep--) {
            text.append("([!".charAt(chance.nextInt(3)));
        }
        int length = 1 + chance.nextInt(26);
        while (text.length() < length && chance.nextInt(400) != 0) {
            text.append(SIGNS.charAt(chance.nextInt(SIGNS.length())));
            int fault = laws.fault(text.toString());
            if (fault >= 0 && fault < text.length() && chance.nextInt(40) != 0) {
                text.setLength(text.length() - 1);
            }
        }
        return text.toString();
    }
}
