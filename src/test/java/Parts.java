import java.util.ArrayList;
import java.util.List;
import java.util.regex.Matcher;
import java.util.regex.Pattern;

/** The tokens of a rightly written text, to cut it behind each of them, or to put a letter of no token for one. */
final class Parts {
    private static final Pattern TOKEN = Pattern.compile("0x[0-9a-f]+|[a-zA-Z_][a-zA-Z_0-9]*|[0-9]+|\\S");

    private final String text;
    private final List<Integer> starts = new ArrayList<>();
    private final List<Integer> ends = new ArrayList<>();

    Parts(String text) {
        this.text = text;
        Matcher matcher = TOKEN.matcher(text);
        while (matcher.find()) {
            starts.add(matcher.start());
            ends.add(matcher.end());
        }
    }

    int size() {
        return starts.size();
    }

    int start(int i) {
        return starts.get(i);
    }

    int end(int i) {
        return ends.get(i);
    }

    boolean is(int i, String token) {
        return i >= 0 && i < size() && text.substring(start(i), end(i)).equals(token);
    }

    String cutBehind(int i) {
        return text.substring(0, end(i));
    }

    String withoutSense(int i) {
        return text.substring(0, start(i)) + "?" + text.substring(end(i));
    }
}
