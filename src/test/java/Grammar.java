import java.util.ArrayList;
import java.util.HashMap;
import java.util.HashSet;
import java.util.List;
import java.util.Map;
import java.util.Set;

/**
 * The document's grammar as rules, and an Earley recogniser over them: it tells how far a text is the beginning of
 * a description without anything of the program's own way of reading.
 */
final class Grammar {
    private record Item(String left, List<String> right, int dot, int origin) {
        String next() {
            return dot < right.size() ? right.get(dot) : null;
        }

        Item moved() {
            return new Item(left, right, dot + 1, origin);
        }
    }

    private final Map<String, List<List<String>>> rules = new HashMap<>();
    private final Set<String> mayBeEmpty = new HashSet<>();

    Grammar() {
        rule("TEXT", "NUMBER : NUMBER : NUMBER ; TABLES { WRITINGS0 } { STEPS0 }");
        rule("NUMBER", "DIGIT MORE8");
        for (int n = 8; n > 0; n--) {
            rule("MORE" + n, "", "GLUED_DIGIT MORE" + (n - 1));
        }
        rule("MORE0", "");
        rule("TABLES", "", "TABLE", "TABLE TABLE");
        rule("TABLE", "#" + " HEX".repeat(16) + " ;", "# * NUMBER + NUMBER ;");
        things("WRITING", "> EXPRESSION0 ;");
        things("STEP", "STATE ^ = EXPRESSION0 ;", "STATE + = EXPRESSION0 ;", "STATE - = EXPRESSION0 ;",
            "STATE * = NUMBER ;", "STATE < NUMBER ;", "STATE < STATE ;", "STATE : STATE ;", "STATE # NUMBER ;",
            "STATE @ ROTATIONS5 ;");
        rule("ROTATIONS1", "NUMBER");
        for (int n = 2; n <= 5; n++) {
            rule("ROTATIONS" + n, "NUMBER", "NUMBER , ROTATIONS" + (n - 1));
        }
        rule("STATE", "A", "B", "C", "D");
        rule("LETTER", "i", "j");
        for (int n = 0; n <= 12; n++) {
            String inner = "EXPRESSION" + (n + 1);
            rule("EXPRESSION" + n, "STATE", "K INDEX", "S INDEX", "NUMBER", "LETTER");
            if (n < 12) {
                rule("EXPRESSION" + n, "~ " + inner, "( " + inner + " OP " + inner + " )",
                    "( " + inner + " < NUMBER )");
            }
        }
        rule("OP", "^", "&", "|", "+", "-", "*");
        rule("INDEX", "( TERMS )");
        rule("TERMS", "TERM", "TERMS + TERM");
        rule("TERM", "NUMBER", "LETTER", "NUMBER LETTER");
        findEmpty();
    }

    private void things(String thing, String... plain) {
        for (int n = 0; n <= 2; n++) {
            rule(thing + "S" + n, "", thing + "S" + n + " " + thing + n);
            rule(thing + n, plain);
            if (n < 2) {
                rule(thing + n, "LETTER NUMBER [ " + thing + "S" + (n + 1) + " ]");
            }
        }
    }

    private void rule(String left, String... rights) {
        for (String right : rights) {
            rules.computeIfAbsent(left, key -> new ArrayList<>())
                .add(right.isEmpty() ? List.of() : List.of(right.split(" ")));
        }
    }

    private void findEmpty() {
        for (int before = -1; before != mayBeEmpty.size();) {
            before = mayBeEmpty.size();
            rules.forEach((left, rights) -> {
                if (rights.stream().anyMatch(mayBeEmpty::containsAll)) {
                    mayBeEmpty.add(left);
                }
            });
        }
    }

    /** The place of the fault 1 of a text, or -1 when it is a description. */
    int faultPlace(String text) {
        List<List<Item>> columns = new ArrayList<>();
        List<Item> seeds = new ArrayList<>();
        rules.get("TEXT").forEach(right -> seeds.add(new Item("TEXT", right, 0, 0)));
        columns.add(closed(columns, seeds));
        for (int place = 0; place < text.length(); place++) {
            if (text.charAt(place) == ' ') {
                continue;
            }
            boolean isGlued = place > 0 && text.charAt(place - 1) != ' ';
            List<Item> moved = new ArrayList<>();
            for (Item item : columns.get(columns.size() - 1)) {
                if (item.next() != null && matches(item.next(), text.charAt(place), isGlued)) {
                    moved.add(item.moved());
                }
            }
            if (moved.isEmpty()) {
                return place;
            }
            columns.add(closed(columns, moved));
        }
        boolean isWhole = columns.get(columns.size() - 1).stream()
            .anyMatch(item -> item.left().equals("TEXT") && item.next() == null);
        return isWhole ? -1 : text.length();
    }

    private List<Item> closed(List<List<Item>> columns, List<Item> seeds) {
        int here = columns.size();
        Set<Item> seen = new HashSet<>(seeds);
        List<Item> column = new ArrayList<>(seen);
        for (int n = 0; n < column.size(); n++) {
            Item item = column.get(n);
            String next = item.next();
            List<Item> more = new ArrayList<>();
            if (next == null) {
                List<Item> before = item.origin() == here ? List.copyOf(column) : columns.get(item.origin());
                for (Item waiting : before) {
                    if (item.left().equals(waiting.next())) {
                        more.add(waiting.moved());
                    }
                }
            } else if (rules.containsKey(next)) {
                rules.get(next).forEach(right -> more.add(new Item(next, right, 0, here)));
                if (mayBeEmpty.contains(next)) {
                    more.add(item.moved());
                }
            }
            for (Item one : more) {
                if (seen.add(one)) {
                    column.add(one);
                }
            }
        }
        return column;
    }

    private boolean matches(String symbol, char sign, boolean isGlued) {
        boolean isDigit = sign >= '0' && sign <= '9';
        switch (symbol) {
            case "DIGIT":
                return isDigit;
            case "GLUED_DIGIT":
                return isDigit && isGlued;
            case "HEX":
                return isDigit || sign >= 'a' && sign <= 'f';
            default:
                return symbol.length() == 1 && symbol.charAt(0) == sign;
        }
    }
}
