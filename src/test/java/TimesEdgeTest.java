/** The edges of words for times, as the document names them ahead of promise 1. */
public final class TimesEdgeTest {
    private TimesEdgeTest() {
    }

    /** Sessions of these times, the first with one entry, each further one with one more. */
    private static Works sessions(int... times) {
        Works x = new Works();
        for (int i = 0; i < times.length; i++) {
            Check.make(x, String.valueOf((char) ('a' + i)), 2, 0, 0);
            Check.session(x, times[i]);
        }
        return x;
    }

    /** Words mean the session of so many entries, or none with 0, for each call that reads words for a time. */
    private static void means(Works x, String words, int entries) {
        int thrown = entries == 0 ? Check.ARGUMENT : 0;
        Works restores = x.twin();
        Check.due("restore [" + words + "]", Check.restore(restores, words), entries == 0 ? thrown : entries);
        Check.due("restore [" + words + "], result", restores.about(4), entries);
        Works verifies = x.twin();
        Check.due("verify [" + words + "]", Check.verify(verifies, words), thrown);
        Check.due("verify [" + words + "], result", verifies.about(4), entries);
        Works prunes = x.twin();
        Check.due("prune [" + words + "]", Check.prune(prunes, words) == Check.ARGUMENT ? 0 : 1, entries == 0 ? 0 : 1);
        Check.due("prune [" + words + "], state", prunes.about(0), entries == 0 ? 0 : 2);
        Check.finish(prunes);
        Check.due("prune [" + words + "], the oldest", prunes.session(0, 1), entries == 0 ? x.session(0, 1) : entries);
        Check.due("the tape", restores.about(6) + verifies.about(6) + prunes.about(6), 0);
        if (!words.isEmpty() && words.indexOf(' ') < 0) {
            commandsMean(x, words, entries);
        }
    }

    private static void commandsMean(Works x, String words, int entries) {
        int code = entries == 0 ? 2 : 0;
        Works y = x.twin();
        Check.due("list " + words, Check.command(y, "list " + words), code);
        Check.due("list " + words + ", lines", Check.output(y).replaceAll("[^\n]", "").length(), entries);
        Check.due("restore " + words, Check.command(y, "restore " + words), code);
        Check.due("restore " + words + ", result", y.about(4), entries);
        Check.due("changes " + words + " now", Check.command(y, "changes " + words + " now"), code);
        Check.due("changes now " + words, Check.command(y, "changes now " + words), code);
        Check.due("verify " + words, Check.command(y.twin(), "verify " + words), code);
        Check.due("prune " + words, Check.command(y, "prune " + words), code);
    }

    private static void blanks() {
        Check.sentence("A TIME as words, without BLANKS: now (the latest session);");
        Works x = sessions(10, 20, 30);
        means(x, "now", 3);
        for (String none : new String[] {"", " ", " now", "now ", "n ow", "10 ", " 10", "1 0", "1B ", "1 B", " 1s", "1 s", "1s 1m",
            "now now", "\0", "now\0", "\0now", "now\n", "Now", "NOW", "no", "ow", "nows", "noww", "nnow", "now1", "1now"}) {
            means(x, none, 0);
        }
        means(sessions(), "now", 0);
    }

    private static void digits() {
        Check.sentence("1 to 9 digits (that time);");
        Works x = sessions(0, 7, 99999999, 100000000, 999999999, 1000000000);
        String[] words = {"0", "000000000", "6", "7", "000000007", "99999998", "99999999", "099999999", "100000000", "999999998",
            "999999999"};
        int[] entries = {1, 1, 1, 2, 2, 2, 3, 3, 4, 4, 5};
        for (int i = 0; i < words.length; i++) {
            means(x, words[i], entries[i]);
        }
        for (String none : new String[] {"0000000000", "0000000007", "1000000000", "4294967296", "9999999999", "-1", "+7", "7.",
            "0x7", "7a", "a7", "/", ":", "7/", "7:", "\u00b2"}) {
            means(x, none, 0);
        }
    }

    private static void back() {
        Check.sentence("1 to 4 digits and B (so many sessions ahead of the latest one; 0B it);");
        Works x = sessions(10, 20, 30);
        String[] words = {"0B", "00B", "000B", "0000B", "1B", "0001B", "2B", "0002B"};
        int[] entries = {3, 3, 3, 3, 2, 2, 1, 1};
        for (int i = 0; i < words.length; i++) {
            means(x, words[i], entries[i]);
        }
        for (String none : new String[] {"B", "00000B", "00001B", "00002B", "0b", "1b", "B1", "1BB", "BB", "1B1B", "1B0s", "0s1B",
            "-1B", "1BW"}) {
            means(x, none, 0);
        }
        Works one = sessions(10);
        means(one, "0B", 1);
        means(one, "1B", 0);
    }

    private static void spans() {
        Check.sentence("one or more times 1 to 6 digits and s, m, h, D or W (seconds, 60, 3600, 86400, 604800 of them), each unit at"
                + " most once, in any order: so long ahead of the latest session's time.");
        int latest = 2000000;
        int[] seconds = {1, 60, 3600, 86400, 604800};
        String units = "smhDW";
        for (int i = 0; i < 5; i++) {
            String unit = units.substring(i, i + 1);
            Works x = sessions(latest - 3 * seconds[i], latest - 2 * seconds[i], latest - seconds[i], latest);
            for (int n = 0; n < 4; n++) {
                means(x, n + unit, 4 - n);
                means(x, "00000" + n + unit, 4 - n);
            }
            means(x, "4" + unit, 0);
            for (String none : new String[] {unit, "000000" + 1 + unit, "1" + unit + "1" + unit, "0" + unit + "0" + unit,
                "1" + unit + unit, unit + "1", "1" + unit + "1", "1" + unit + "now", "1-" + unit}) {
                means(x, none, 0);
            }
        }
        Works x = sessions(latest - 694861, latest - 694860, latest);
        String[] orders = {"1W1D1h1m", "1m1h1D1W", "1D1W1m1h", "1W1D1h0s1m", "0s1m1h1D1W"};
        for (String order : orders) {
            means(x, order, 2);
        }
        for (String order : new String[] {"1W1D1h1m1s", "1s1m1h1D1W", "1h1s1W1m1D", "1D1W1s1h1m"}) {
            means(x, order, 1);
        }
        means(x, "1W1D1h1m2s", 0);
        for (String none : new String[] {"1W1D1h1m1s1s", "1s1m1h1D1W1s", "1S", "1M", "1H", "1d", "1w", "1y", "0s0m0h0D0W0", "0s0s"}) {
            means(x, none, 0);
        }
        for (String first : units.split("")) {
            for (String second : units.split("")) {
                for (String none : new String[] {"1" + first + second, first + "1" + second, "1" + first + "0000000" + second,
                    "0000000" + first + "1" + second, "1" + first + "-1" + second, "1" + first + "1", "1" + first + "1" + second + "1"}) {
                    means(x, none, 0);
                }
                means(x, "0" + first + "000000" + second, first.equals(second) ? 0 : 3);
            }
        }
    }

    private static void largeSums() {
        Check.sentence("(0s may stand ahead; sums are as large as they are.)");
        Works x = sessions(0, 2147483647);
        means(x, "0s", 2);
        means(x, "000000s", 2);
        means(x, "3550W443647s", 1);
        means(x, "003550W443647s", 1);
        means(x, "3550W443646s", 1);
        means(x, "3550W443648s", 0);
        means(x, "3550W999999s", 0);
        means(x, "7101W282496s", 0);
        means(x, "999999W999999D999999h999999m999999s", 0);
        Works y = sessions(0, 1000000);
        String[] units = {"h", "D", "W"};
        int[] seconds = {3600, 86400, 604800};
        for (int i = 0; i < 3; i++) {
            int found = 0;
            for (int n = 1; n <= 999999 && found < 3; n++) {
                int wrapped = n * seconds[i];
                if ((long) n * seconds[i] > 1000000 && wrapped >= 0 && wrapped <= 1000000) {
                    means(y, n + units[i], 0);
                    found++;
                }
            }
            means(y, "999999" + units[i], 0);
        }
        means(y, "999999s", 1);
        means(y, "16666m40s", 1);
        means(y, "16666m41s", 0);
    }

    private static void meanings() {
        Check.sentence("It means the latest session (with C/S) whose time is not above that; none without such a one, or with more B"
                + " than there are.");
        Works x = sessions(100, 200, 300);
        String[] words = {"99", "100", "101", "199", "200", "201", "299", "300", "301", "999999999", "0s", "1s", "99s", "100s", "101s",
            "200s", "201s", "299s", "300s", "301s", "2B", "3B", "4B", "9999B"};
        int[] entries = {0, 1, 1, 1, 2, 2, 2, 3, 3, 3, 3, 2, 2, 2, 1, 1, 0, 0, 0, 0, 1, 0, 0, 0};
        for (int i = 0; i < words.length; i++) {
            means(x, words[i], entries[i]);
        }
        for (String none : new String[] {"now", "0B", "0", "999999999", "0s", "1W"}) {
            means(sessions(), none, 0);
        }
        Works many = new Works();
        for (int i = 0; i < 30; i++) {
            Check.session(many, i);
        }
        Check.due("29B of 30", Check.restore(many, "29B"), 0);
        Check.due("30B of 30", Check.restore(many, "30B"), Check.ARGUMENT);
        withoutC();
    }

    /** On a disk that has broken off, what a time means is told by EXIT code 3, and that it means none by 2. */
    private static void withoutC() {
        Works x = sessions(100, 200, 300);
        x.begin(400);
        x.step(4);
        x.crash(0);
        Check.due("B/400 and T/400 alone", Check.disk(x), "0 0 0 4 1 3 0");
        Check.due("the latest is 300", Check.command(x, "list 201s"), 2);
        Check.due("100 is in reach", Check.command(x, "list 200s"), 3);
        Check.due("2B is there", Check.command(x, "list 2B"), 3);
        Check.due("3B is not", Check.command(x, "list 3B"), 2);
        Check.due("recovered", Check.command(x, "check"), 0);
        means(x, "now", 3);
        Check.prune(x, "now");
        x.step(2);
        x.crash(1);
        Check.due("T/100 without C/100", Check.disk(x), "0 0 0 3 0 2 0");
        Check.due("100 is none", Check.command(x, "list 199"), 2);
        Check.due("200 is one", Check.command(x, "list 200"), 3);
        Check.due("1B", Check.command(x, "list 1B"), 3);
        Check.due("2B", Check.command(x, "list 2B"), 2);
        Works y = new Works();
        y.begin(5);
        y.step(4);
        y.crash(0);
        Check.due("none at all", Check.command(y, "list now"), 2);
        Works z = new Works();
        z.begin(5);
        z.step(5);
        z.crash(1);
        Check.due("it is committed", Check.command(z, "list now"), 3);
    }

    public static void main(String[] args) {
        blanks();
        digits();
        back();
        spans();
        largeSums();
        meanings();
        Check.close();
    }
}
