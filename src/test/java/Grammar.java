import java.util.ArrayList;
import java.util.HashMap;
import java.util.LinkedHashSet;
import java.util.List;
import java.util.Map;

/** A grammar written down rule by rule, and by Earley's sets the first byte at which no text of it can go on. */
final class Grammar {
    private record Item(String made, int rule, int dot, int from) {
    }

    private final Map<String, List<String[]>> rules = new HashMap<>();
    private final String start;

    Grammar(String start) {
        this.start = start;
    }

    /** One way to write a kind: kinds and signs with blanks between, _ for a blank of the text itself. */
    void rule(String made, String parts) {
        rules.computeIfAbsent(made, key -> new ArrayList<>()).add(parts.isEmpty() ? new String[0] : parts.split(" "));
    }

    private String next(Item item) {
        String[] parts = rules.get(item.made).get(item.rule);
        return item.dot < parts.length ? parts[item.dot] : "";
    }

    private static Item moved(Item item) {
        return new Item(item.made, item.rule, item.dot + 1, item.from);
    }

    int fault(String text) {
        List<LinkedHashSet<Item>> sets = new ArrayList<>();
        sets.add(new LinkedHashSet<>());
        expect(start, 0, sets.get(0));
        for (int at = 0; at < text.length(); at++) {
            close(sets, at);
            String sign = text.charAt(at) == ' ' ? "_" : text.substring(at, at + 1);
            LinkedHashSet<Item> behind = new LinkedHashSet<>();
            for (Item item : sets.get(at)) {
                if (!rules.containsKey(next(item)) && next(item).equals(sign)) {
                    behind.add(moved(item));
                }
            }
            if (behind.isEmpty()) {
                return at;
            }
            sets.add(behind);
        }
        close(sets, text.length());
        for (Item item : sets.get(text.length())) {
            if (item.made.equals(start) && item.from == 0 && next(item).isEmpty()) {
                return -1;
            }
        }
        return text.length();
    }

    private boolean expect(String kind, int at, LinkedHashSet<Item> set) {
        boolean more = false;
        for (int rule = 0; rule < rules.get(kind).size(); rule++) {
            more |= set.add(new Item(kind, rule, 0, at));
        }
        return more;
    }

    // Kinds that may be empty are ended by going round until nothing more comes.
    private void close(List<LinkedHashSet<Item>> sets, int at) {
        LinkedHashSet<Item> set = sets.get(at);
        boolean more = true;
        while (more) {
            more = false;
            for (Item item : List.copyOf(set)) {
                if (rules.containsKey(next(item))) {
                    more |= expect(next(item), at, set);
                } else if (next(item).isEmpty()) {
                    for (Item waiting : List.copyOf(sets.get(item.from))) {
                        if (next(waiting).equals(item.made)) {
                            more |= set.add(moved(waiting));
                        }
                    }
                }
            }
        }
    }
}
