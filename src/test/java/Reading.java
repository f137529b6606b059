/** A reader of its own for a COUNTY's text: TOKENS first, then where each may stand. TextBounds holds the class against it. */
final class Reading {
    /** How many PEOPLE, or -1000100 less the place of the FAULT. */
    final int answer;
    /** The FAULT's number, 0 if there is none. */
    final int fault;

    Reading(String text) {
        int at = 0;
        int people = 0;
        int place = 0;
        String form = "y#,#;";
        int foundAt = -1;
        int found = 0;
        while (foundAt < 0) {
            if (place == form.length()) {
                if (at == text.length()) {
                    break;
                }
                form = "@#,#,#;";
                place = 0;
            }
            String token = token(text, at);
            found = faultOf(token, form.charAt(place), people, most(form, place), least(form));
            if (found > 0) {
                foundAt = at;
            }
            people += form.charAt(place) == '@' ? 1 : 0;
            at += token.length();
            place++;
        }
        answer = foundAt < 0 ? people : -1000100 - foundAt;
        fault = found;
    }

    /** Figures as long as they go on, else one byte; nothing at the end. */
    private static String token(String text, int at) {
        int to = at;
        while (to < text.length() && isFigure(text.charAt(to))) {
            to++;
        }
        return text.substring(at, Math.min(text.length(), Math.max(to, at + 1)));
    }

    private static boolean isFigure(char sign) {
        return sign >= '0' && sign <= '9';
    }

    private static int least(String form) {
        return form.charAt(0) == 'y' ? 1 : 0;
    }

    private static int most(String form, int place) {
        if (form.charAt(0) == 'y') {
            return place == 1 ? 24 : 30;
        }
        return place == 1 ? 9 : 99;
    }

    private static int faultOf(String token, char wanted, int people, int most, int least) {
        boolean isNumber = !token.isEmpty() && isFigure(token.charAt(0));
        if (wanted == '#') {
            if (!isNumber || token.length() > 2) {
                return 1;
            }
            int number = Integer.parseInt(token);
            return number < least || number > most ? 2 : 0;
        }
        if (wanted == '@') {
            boolean isSort = token.length() == 1 && "cshtp".contains(token);
            return !isSort ? 1 : people >= 6 ? 3 : 0;
        }
        return token.equals(String.valueOf(wanted)) ? 0 : 1;
    }
}
