import java.util.LinkedHashMap;
import java.util.Map;

/** Calls that several tests make. */
final class Calls {
    static final int[] WILD = {Integer.MIN_VALUE, -1000, -7, -1, Integer.MAX_VALUE};

    private Calls() {
    }

    /** Up to eight characters as the number by which put() takes them. */
    static long packed(String text) {
        long characters = 0;
        for (int i = 0; i < text.length(); i++) {
            characters = (characters << 8) | text.charAt(i);
        }
        return characters;
    }

    static void append(DrawerSlips x, String text) {
        for (int from = 0; from < text.length(); from += 8) {
            x.put(packed(text.substring(from, Math.min(text.length(), from + 8))));
        }
    }

    static DrawerSlips withText(String text) {
        DrawerSlips x = new DrawerSlips();
        append(x, text);
        return x;
    }

    static int carriedOut(DrawerSlips x, String text) {
        append(x, text);
        return x.carryOut();
    }

    /** An archive whose minute of now is this one. */
    static DrawerSlips atMinute(int minute) {
        DrawerSlips x = new DrawerSlips();
        int left = minute;
        while (left > 0) {
            int step = Math.min(left, 999);
            x.pass(step);
            left -= step;
        }
        return x;
    }

    /** An archive in which 30 slips wait, the even ones to read, and none at a drawer behind another one's. */
    static DrawerSlips full() {
        DrawerSlips x = new DrawerSlips();
        for (int i = 0; i < 30; i++) {
            x.slip(i % 2, 3 * i, 1);
        }
        return x;
    }

    /** All that can be asked of an archive, but for the pad and the history: at most some 330 calls. */
    static Map<String, Integer> everything(DrawerSlips x) {
        Map<String, Integer> all = new LinkedHashMap<>();
        for (int what = 0; what < 16; what++) {
            all.put("count(" + what + ")", x.count(what));
        }
        for (int writes = 0; writes < 2; writes++) {
            int slips = x.count(1 + writes);
            for (int rank = 0; rank <= slips; rank++) {
                int slip = x.waiting(writes, rank);
                all.put("waiting(" + writes + ", " + rank + ")", slip);
                if (slip >= 0) {
                    allOf(x, slip, all);
                }
            }
        }
        int entries = Math.min(x.count(4), 20);
        for (int ago = 0; ago <= entries; ago++) {
            for (int what = 0; what < 3; what++) {
                all.put("log(" + ago + ", " + what + ")", x.log(ago, what));
            }
        }
        for (int what = 0; what < 3; what++) {
            all.put("next(" + what + ")", x.next(what));
            all.put("all(" + what + ")", x.all(what));
        }
        return all;
    }

    private static void allOf(DrawerSlips x, int slip, Map<String, Integer> all) {
        for (int what = 0; what < 6; what++) {
            all.put("of(" + slip + ", " + what + ")", x.of(slip, what));
        }
        all.put("servedIn(" + slip + ")", x.servedIn(slip));
    }
}
