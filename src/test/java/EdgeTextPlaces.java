import java.util.ArrayList;
import java.util.List;

/** Term I, at every place of a text: it ends there, or another token stands there, of each kind. */
final class EdgeTextPlaces {
    /*
     * A token, and what may stand in its place: L a line's word, K this word alone, C one of these words, W a whole
     * within bounds, N a new name of a sort, O a told name of a sort, P a told payer or all, S the end of a line,
     * R that or another row.
     */
    private static final String PATTERN = "desk:L keep:K 7:W0-999 part:K 8:W0-99 share:K even:Ceven,parts ;:S"
            + " table:L t:Ntable all:Call,steps from:K 5:W0-9999 take:K 1:W0-99 from:R 6:W6-9999 take:K 2:W0-99 ;:R"
            + " payer:L p:Npayer weeks:K 1:W1-4 ;:S"
            + " table:L u:Ntable steps:Call,steps from:K 0:W0-9999 take:K 9:W0-99 ;:R"
            + " payer:L q:Npayer weeks:K 2:W1-4 ;:S"
            + " order:L a:Norder rank:K 1:W1-9 keep:K 0:W0-999 total:K 0:W0-99999 sum:Csum,table,part 5:W1-999 at:K p:P ;:S"
            + " order:L b:Norder rank:K 2:W1-9 keep:K 3:W0-999 total:K 9:W0-99999 table:Csum,table,part t:Otable at:K all:P ;:S"
            + " order:L c:Norder rank:K 9:W1-9 keep:K 4:W0-999 total:K 8:W0-99999 part:Csum,table,part 7:W1-99 at:K q:P";
    private static final String[] STRAYS = {"desk", "table", "payer", "order", "all", "keep", "part", "share", "even",
        "parts", "steps", "from", "take", "weeks", "rank", "total", "sum", "at", "odd", "t", "u", "p", "q", "a", "b", "c",
        "zz", "abcdefg", "desks", ";", "0", "1", "00001", "7", "99999", "000001", "100000", "?", "A", "Desk", "-1",
        "+1", ".", ",", ":", "\u0000", "\u001f", "!", "/", "<", "`", "{", "\u007f", "\u0080", "\u00a0", "\u00e9",
        "\u00ff"};
    private static final List<String> RESERVED = List.of("desk", "table", "payer", "order", "all");

    private final Due due;
    private final String[] tokens;
    private final String[] kinds;

    private EdgeTextPlaces(Due due) {
        this.due = due;
        String[] parts = PATTERN.split(" ");
        tokens = new String[parts.length];
        kinds = new String[parts.length];
        for (int i = 0; i < parts.length; i++) {
            int colon = parts[i].lastIndexOf(':');
            tokens[i] = parts[i].substring(0, colon);
            kinds[i] = parts[i].substring(colon + 1);
        }
    }

    static void all(Due due) {
        EdgeTextPlaces places = new EdgeTextPlaces(due);
        for (int i = 0; i < places.tokens.length; i++) {
            places.endsAt(i);
            for (String stray : STRAYS) {
                places.other(i, stray);
            }
            places.boundsAt(i);
        }
        due.by("Term I, the text as it is");
        places.tell(places.text(0, places.tokens.length), 0, 0);
    }

    private String text(int from, int to) {
        StringBuilder s = new StringBuilder();
        for (int i = from; i < to; i++) {
            s.append(tokens[i]).append(i + 1 < tokens.length ? " " : "");
        }
        return s.toString();
    }

    private void endsAt(int i) {
        due.by("Term I, the end, where " + tokens[i] + " could stand");
        String head = text(0, i);
        boolean whole = kinds[i].equals("S") || kinds[i].equals("R");
        tell(head, whole ? (told("payer", i).isEmpty() ? 6 : 0) : 1, head.length());
        String closer = head.trim();
        tell(closer, whole ? (told("payer", i).isEmpty() ? 6 : 0) : 1, closer.length());
    }

    private void other(int i, String stray) {
        int fault = expected(i, stray);
        if (fault != 0) {
            due.by("Term I, " + stray + ", where " + tokens[i] + " could stand");
            String head = text(0, i);
            tell(head + stray, fault, head.length());
            tell(head + stray + " " + text(i + 1, tokens.length), fault, head.length());
        }
    }

    private void boundsAt(int i) {
        if (kinds[i].charAt(0) != 'W') {
            return;
        }
        due.by("Term I, 2 a WHOLE out of bounds; at it");
        int least = least(i);
        int most = most(i);
        String head = text(0, i);
        String tail = " " + text(i + 1, tokens.length);
        if (least > 0) {
            tell(head + (least - 1) + tail, 2, head.length());
        }
        tell(head + (most + 1) + tail, most < 99_999 ? 2 : 1, head.length());
        // a FROM may be as much as it may, but then the next one can't be more
        boolean ahead = i + 4 < tokens.length && kinds[i + 3].equals("R") && tokens[i + 3].equals("from");
        tell(head + least + tail, 0, 0);
        tell(head + most + tail, ahead ? 2 : 0, ahead ? (head + most + " " + text(i + 1, i + 4)).length() : 0);
    }

    private int least(int i) {
        return Integer.parseInt(kinds[i].substring(1, kinds[i].indexOf('-')));
    }

    private int most(int i) {
        return Integer.parseInt(kinds[i].substring(kinds[i].indexOf('-') + 1));
    }

    /** The names of a sort that are told ahead of the i-th token. */
    private List<String> told(String sort, int i) {
        List<String> names = new ArrayList<>();
        for (int k = 0; k < i; k++) {
            if (kinds[k].equals("N" + sort)) {
                names.add(tokens[k]);
            }
        }
        return names;
    }

    private int expected(int i, String stray) {
        boolean isWord = stray.matches("[a-z]{1,6}");
        boolean isName = isWord && !RESERVED.contains(stray);
        String kind = kinds[i];
        String rest = kind.substring(1);
        switch (kind.charAt(0)) {
            case 'L': return ofLine(i, stray);
            case 'K': return stray.equals(tokens[i]) ? 0 : 1;
            case 'C': return isWord && List.of(rest.split(",")).contains(stray) ? 0 : 1;
            case 'W': return !stray.matches("[0-9]{1,5}") ? 1
                    : Integer.parseInt(stray) < least(i) || Integer.parseInt(stray) > most(i) ? 2 : 0;
            case 'N': return !isName ? 1 : told(rest, i).contains(stray) ? 3 : 0;
            case 'O': return !isName ? 1 : told(rest, i).contains(stray) ? 0 : 3;
            case 'P': return stray.equals("all") ? 0 : !isName ? 1 : told("payer", i).contains(stray) ? 0 : 3;
            case 'S': return stray.equals(";") ? 0 : 1;
            default: return stray.equals(";") || stray.equals("from") ? 0 : 1;
        }
    }

    private int ofLine(int i, String stray) {
        if (stray.equals("desk")) {
            return i == 0 ? 0 : 4;
        }
        boolean isOther = stray.equals("table") || stray.equals("payer") || stray.equals("order");
        return !isOther ? 1 : i == 0 ? 6 : 0;
    }

    private void tell(String text, int fault, int place) {
        PayOrders x = new PayOrders();
        if (text.length() > 500) {
            due.is("the text is too long: " + text, 1, 0);
            return;
        }
        if (fault == 0) {
            boolean refused = Due.tell(x, text) == -1;
            due.is("<" + text + "> is refused", refused ? 1 : 0, 0);
            due.is("trouble() of it", x.trouble(), 0);
        } else {
            due.refused(x, "desk of <" + text + ">", Due.tell(x, text), 4);
        }
        due.is("fault() of <" + text + ">", x.fault(), fault);
        due.is("where() of <" + text + ">", x.where(), fault == 0 ? -1 : place);
    }
}
