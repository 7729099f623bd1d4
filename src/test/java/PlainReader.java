import java.util.List;
import java.util.regex.Matcher;
import java.util.regex.Pattern;

/** THE TEXT of an AVENUE read a second time, in another way than the class reads it: by what may come next. */
final class PlainReader {
    private static final Pattern TOKEN = Pattern.compile(" *([a-z]+|[0-9]+|.|$)", Pattern.DOTALL);
    private static final List<String> KINDS = List.of(PlainModel.KINDS);

    private PlainReader() {
    }

    /** What avenue() is to answer, if there are so many walkers already. */
    static int answer(String text, int walkers) {
        int room = 8 - walkers;
        int items = 0;
        String next = "item";
        Matcher m = TOKEN.matcher(text);
        while (m.find()) {
            String token = m.group(1);
            if (token.isEmpty()) {
                return mayEnd(next) ? items : -1 - text.length();
            }
            if (next.equals("item")) {
                boolean isKind = KINDS.contains(token);
                room -= isKind ? 1 : 0;
                items++;
                next = isKind && room >= 0 ? "at" : token.matches("trams|quiet") ? "sign" : null;
            } else {
                next = behind(next, token);
            }
            if (next == null) {
                return -1 - m.start(1);
            }
        }
        return 0;
    }

    private static boolean mayEnd(String next) {
        return next.endsWith("sign");
    }

    /** What may come behind a token where something is awaited; null if the token can't stand there. */
    private static String behind(String next, String token) {
        if (mayEnd(next) && token.equals(";")) {
            return "item";
        }
        return switch (next) {
            case "at" -> token.equals("at") ? "place" : null;
            case "place" -> token.matches("0*[0-9]{1,2}") ? "back pace round sign" : null;
            case "pace" -> token.matches("0*[0-9]") ? "round sign" : null;
            default -> !List.of(next.split(" ")).contains(token) ? null : switch (token) {
                case "back" -> "pace round sign";
                case "pace" -> "pace";
                case "round" -> "sign";
                default -> null;
            };
        };
    }
}
