import java.util.Arrays;

/** The sentences of the text format, and those of feed, load and errorPosition. */
final class TextSentences extends Sentences {
    private static final int SYNTAX = SnapshotVolumes.SYNTAX_ERROR;
    private static final int RANGE = SnapshotVolumes.RANGE_ERROR;
    private static final int NAME = SnapshotVolumes.NAME_ERROR;
    private static final int DUPLICATE = SnapshotVolumes.DUPLICATE_ERROR;
    private static final int COUNT = SnapshotVolumes.COUNT_ERROR;
    private static final int FULL_ERROR = SnapshotVolumes.FULL_ERROR;

    private static final String FIRST = "volume a;write a 0 1;snap a s;";
    // One of each form, with a space between the tokens; each may stand behind FIRST.
    private static final String[] FORMS = {"volume b ;", "write a 0 5 ;", "trim a 0 ;", "snap a t ;", "clone s b ;", "hold s ;",
        "set pool 5 ;", "set clones 5 ;"};
    private static final String SIX = "volume a;volume b;volume c;volume d;volume e;volume f;";

    private TextSentences() {
    }

    static void all() {
        tokens();
        gaps();
        otherSigns();
        forms();
        sortsOfNames();
        orderOfStatements();
        names();
        firstErrors();
        severalErrors();
        syntaxErrors();
        rangeErrors();
        nameErrors();
        duplicateErrors();
        countErrors();
        clonesCounted();
        fullErrors();
        feeding();
        loading();
        failedLoading();
        lengths();
        positions();
    }

    private static void error(String text, int code, int position) {
        SnapshotVolumes x = new SnapshotVolumes();
        due("load of " + text, Pools.load(x, text), code);
        due("errorPosition of " + text, x.errorPosition(), position);
    }

    /** The error is at the sign ^, which is not part of the text. */
    private static void errorAt(String text, int code) {
        error(text.replace("^", ""), code, text.indexOf('^'));
    }

    private static void good(String text, int statements) {
        error(text, statements, NONE);
    }

    private static String sixteenSnapshots() {
        StringBuilder text = new StringBuilder("volume a;");
        for (char name = 'a'; name < 'a' + 16; name++) {
            text.append("snap a ").append(name).append(';');
        }
        return text.toString();
    }

    private static void tokens() {
        test(0, "Tokens are words (maximal runs of the letters a to z)", () -> {
            good("volume az;volume za;", 2);
            errorAt("^volumea;", SYNTAX);
            errorAt("^vol ume a;", SYNTAX);
            errorAt("volume a ^b;", SYNTAX);
            errorAt("^a", SYNTAX);
            errorAt("^z", SYNTAX);
        });
        test(0, "integers (maximal runs of decimal digits, read as unsigned numbers of any length)", () -> {
            good("volume a;write a0 1;write a 11 9;", 3);
            good("set pool" + "0".repeat(900) + "999;", 1);
            good("volume a;write a " + "0".repeat(400) + " " + "0".repeat(400) + "1;", 2);
            errorAt("volume a;write a 0 1 ^1;", SYNTAX);
            errorAt("volume a;write a ^-1 1;", SYNTAX);
            errorAt("volume a;write a ^+1 1;", SYNTAX);
            errorAt("volume a;write a 0^.0 1;", SYNTAX);
            errorAt("set pool ^" + "9".repeat(900) + ";", RANGE);
            errorAt("set pool ^1" + "0".repeat(900) + ";", RANGE);
        });
        test(0, "read as unsigned numbers of any length", () -> {
            String[] wraps = {"256", "257", "65536", "65537", "2147483648", "2147483649", "4294967295", "4294967296", "4294967297",
                "9223372036854775809", "18446744073709551615", "18446744073709551616", "18446744073709551617",
                "340282366920938463463374607431768211457", "1000001", "10000001", "12345678901234567890"};
            for (String number : wraps) {
                errorAt("set clones ^" + number + ";", RANGE);
                errorAt("volume a;trim a ^" + number + ";", RANGE);
                errorAt("volume a;write a ^" + number + " 1;", RANGE);
                errorAt("volume a;write a 0 ^" + number + ";", RANGE);
                errorAt("set pool ^000" + number + "000;", RANGE);
            }
        });
        test(0, "and the character ';'.", () -> {
            good("volume a;volume b ; volume c\n;\n", 3);
            errorAt("^;", SYNTAX);
            errorAt("volume a;^;", SYNTAX);
        });
    }

    private static void gaps() {
        test(0, "Spaces (32) and newlines (10) may stand between tokens, ahead of the first one and behind the last one.", () -> {
            good(" ", 0);
            good("\n", 0);
            good(" ".repeat(999) + "\n", 0);
            good("\n \nvolume\n\na \n;\n set\npool\n \n1\n;\n \n", 2);
            good("volume a;write a0 0001;write a 11 9;set pool9;", 4);
            errorAt("volume a;write a 1 1 ^1;", SYNTAX);
            errorAt("volume a^\t;", SYNTAX);
            errorAt("volume a^\r\n;", SYNTAX);
        });
    }

    private static void otherSigns() {
        test(0, "Any other character is a token that is never allowed.", () -> {
            for (char sign = 0; sign < 256; sign++) {
                boolean letter = sign >= 'a' && sign <= 'z';
                boolean digit = sign >= '0' && sign <= '9';
                boolean gap = sign == ' ' || sign == '\n';
                error(sign + "volume a;", gap ? 1 : SYNTAX, gap ? NONE : 0);
                error("volume a;" + sign, gap ? 1 : SYNTAX, gap ? NONE : 9);
                if (sign != ';') {
                    error("volume a" + sign + ";", gap || letter ? 1 : SYNTAX, gap || letter ? NONE : 8);
                }
                if (sign != ';' && !digit) {
                    error("volume a;trim a " + sign + "0;", gap ? 2 : SYNTAX, gap ? NONE : 16);
                    error("volume a;trim a 0" + sign + ";", gap ? 2 : SYNTAX, gap ? NONE : 17);
                }
            }
        });
    }

    private static String join(String[] tokens, int from, int to) {
        return String.join(" ", Arrays.copyOfRange(tokens, from, to));
    }

    private static String[] wrongFor(String token, int place) {
        if (token.equals(";")) {
            return new String[] {"b", "7", "_", "volume"};
        }
        if (token.matches("[0-9]+")) {
            return new String[] {"b", ";", "_", "-1", "volume"};
        }
        boolean key = place == 0 || token.equals("pool") || token.equals("clones");
        return key ? wrongForKey(token) : new String[] {"7", ";", "_", "abcdefg", "A"};
    }

    /** Other tokens, and words that are a letter longer, a letter shorter, or different in one letter. */
    private static String[] wrongForKey(String key) {
        int length = key.length();
        String[] wrong = {"7", ";", "_", "b", key.toUpperCase(), key + "a", "a" + key, key.substring(1), key.substring(0, length - 1)};
        String[] all = Arrays.copyOf(wrong, wrong.length + length);
        for (int i = 0; i < length; i++) {
            all[wrong.length + i] = key.substring(0, i) + "x" + key.substring(i + 1);
        }
        return all;
    }

    private static void forms() {
        test(0, "text = { statement \";\" }", () -> {
            good("", 0);
            for (String form : FORMS) {
                good(FIRST + form, 4);
                good(FIRST + form.replace(" ;", ";") + "\n", 4);
            }
        });
        test(0, "statement = \"volume\" name | \"write\" name address size | \"trim\" name address | \"snap\" name name | "
            + "\"clone\" name name", () -> {
            for (String form : FORMS) {
                String[] tokens = form.split(" ");
                for (int k = 0; k < tokens.length; k++) {
                    for (String other : wrongFor(tokens[k], k)) {
                        errorAt(FIRST + join(tokens, 0, k) + " ^" + other + " " + join(tokens, k + 1, tokens.length), SYNTAX);
                    }
                }
            }
        });
        test(0, "| \"hold\" name | \"set\" ( \"pool\" | \"clones\" ) integer", () -> {
            for (String form : FORMS) {
                String[] tokens = form.split(" ");
                int last = tokens.length - 1;
                for (String more : new String[] {"b", "7", "set", "_"}) {
                    errorAt(FIRST + join(tokens, 0, last) + " ^" + more + " ;", SYNTAX);
                }
                for (int k = 1; k < last; k++) {
                    errorAt(FIRST + join(tokens, 0, k) + " ^; " + join(tokens, k, last + 1), SYNTAX);
                }
            }
            errorAt("set ^hold 1;", SYNTAX);
            errorAt("set ^pools 1;", SYNTAX);
            errorAt("set ^clone 1;", SYNTAX);
        });
    }

    private static void sortsOfNames() {
        test(0, "The name behind write and trim and the first one behind snap are those of a volume", () -> {
            errorAt(FIRST + "write ^s 0 1;", NAME);
            errorAt(FIRST + "trim ^s 0;", NAME);
            errorAt(FIRST + "snap ^s t;", NAME);
        });
        test(0, "the second one behind snap is that of a new snapshot", () -> {
            good(FIRST + "snap a a;", 4);
            errorAt(FIRST + "snap a ^s;", DUPLICATE);
        });
        test(0, "the names behind clone are those of a snapshot and of a new volume", () -> {
            good(FIRST + "clone s s;", 4);
            errorAt(FIRST + "clone ^a b;", NAME);
            errorAt(FIRST + "clone s ^a;", DUPLICATE);
        });
        test(0, "the name behind hold is that of a snapshot.", () -> {
            good(FIRST + "hold s;", 4);
            errorAt(FIRST + "hold ^a;", NAME);
        });
    }

    private static void orderOfStatements() {
        test(0, "What is done is done in the order of the statements, by the settings as they were told ahead of it", () -> {
            good("volume a;write a 0 9;set pool 1;", 3);
            errorAt("set pool 1;volume a;write a 0 ^2;", FULL_ERROR);
            good("volume a;snap a s;clone s b;set clones 0;", 4);
            errorAt("volume a;snap a s;set clones 0;clone ^s b;", COUNT);
            errorAt("snap ^a s;volume a;", NAME);
            SnapshotVolumes x = Pools.loaded("volume a;write a 0 1;snap a s;write a 0 2;snap a t;trim a 0;");
            due("of s", x.blockAt(0, 0), 1);
            due("of t", x.blockAt(1, 0), 3);
            due("of a", x.blockAt(16, 0), NONE);
        });
        test(0, "a trim where there is no block does nothing.", () -> {
            SnapshotVolumes x = Pools.loaded("volume a;trim a 0;trim a 11;write a 3 4;trim a 2;");
            due("blocks", x.count(2), 1);
            due("time", x.count(3), 1);
            due("blockAt", x.blockAt(16, 3), 1);
        });
    }

    private static void names() {
        test(0, "A name is a word of 1 to 6 letters (a longer word is not allowed where a name is)", () -> {
            good("volume a;volume abcdef;write abcdef 0 1;trim abcdef 0;snap abcdef a;snap abcdef ghijkl;clone ghijkl b;"
                + "clone a mnopqr;hold ghijkl;hold a;", 10);
            String six = "volume abcdef;snap abcdef ghijkl;";
            errorAt(six + "volume ^abcdefg;", SYNTAX);
            errorAt(six + "write ^abcdefg 0 1;", SYNTAX);
            errorAt(six + "trim ^abcdefg 0;", SYNTAX);
            errorAt(six + "snap ^abcdefg t;", SYNTAX);
            errorAt(six + "snap abcdef ^ghijklm;", SYNTAX);
            errorAt(six + "clone ^ghijklm b;", SYNTAX);
            errorAt(six + "clone ghijkl ^abcdefg;", SYNTAX);
            errorAt(six + "hold ^ghijklm;", SYNTAX);
            errorAt("volume ^" + "a".repeat(990) + ";", SYNTAX);
            errorAt(six + "write ^abcde 0 1;", NAME);
            errorAt(six + "hold ^ghijk;", NAME);
        });
        test(0, "whatever stands where a name is allowed is one.", () -> {
            good("volume volume;volume write;volume trim;volume snap;volume clone;volume hold;", 6);
            good("volume set;volume pool;volume clones;snap set set;snap pool hold;clone hold volume;hold hold;", 7);
            good("volume write;write write 0 1;trim write 0;snap write snap;clone snap clone;hold snap;", 6);
        });
        test(0, "A volume and a snapshot can have the same name.", () -> {
            SnapshotVolumes x = Pools.loaded("volume b;volume a;snap b a;snap a b;clone a c;");
            due("volume a", x.named(false, Pools.letters("a")), 1);
            due("snapshot a", x.named(true, Pools.letters("a")), 0);
            due("the origin of c", x.volumeNumber(2, 0), 0);
        });
    }

    private static void firstErrors() {
        test(0, "The first error in the order of the text is reported, at the position of the first character of its token.", () -> {
            errorAt("volume a;write ^b 12 10;", NAME);
            errorAt("volume a;write a ^12 10 ;", RANGE);
            errorAt("volume a;write a 0 ^10 7", RANGE);
            errorAt("volume a;write a 0 ^x 10;", SYNTAX);
            errorAt("volume a;volume  \n ^a _", DUPLICATE);
            errorAt("set pool 1;set ^pool 0;", DUPLICATE);
            errorAt("set pool ^0000;set pool 1;", RANGE);
            errorAt("volume a;snap ^b abcdefg;", NAME);
            errorAt("volume a;snap a s;clone ^t a;", NAME);
        });
    }

    private static void severalErrors() {
        test(0, "If several errors apply to one token, the one listed first is reported.", () -> {
            String full = "set pool 9;volume a;write a 0 9;snap a s;";
            errorAt(full + "write a 0 ^10;", RANGE);
            errorAt(full + "write a 0 ^0;", RANGE);
            errorAt(full + "write a 0 ^a;", SYNTAX);
            errorAt(full + "write a 0 ^;", SYNTAX);
            errorAt(full + "write a 0 ^1;", FULL_ERROR);
            errorAt("set clones 0;" + full + "clone ^b c;", NAME);
            errorAt("set clones 0;" + full + "clone ^abcdefg c;", SYNTAX);
        });
    }

    private static void syntaxErrors() {
        test(0, "SYNTAX_ERROR: the token is not allowed here", () -> {
            errorAt("^pool 1;", SYNTAX);
            errorAt("^clones 1;", SYNTAX);
            errorAt("^7;", SYNTAX);
            errorAt("volume a^,volume b;", SYNTAX);
            errorAt("volume a ^volume b;", SYNTAX);
            errorAt("volume ^", SYNTAX);
        });
        test(0, "if the text ends too early, the position is its length.", () -> {
            for (String form : FORMS) {
                String[] tokens = form.split(" ");
                for (int k = 1; k < tokens.length; k++) {
                    errorAt(FIRST + join(tokens, 0, k) + "^", SYNTAX);
                    errorAt(FIRST + join(tokens, 0, k) + " \n  ^", SYNTAX);
                }
            }
            errorAt("volume" + " ".repeat(994) + "^", SYNTAX);
            errorAt(" ".repeat(994) + "volume^", SYNTAX);
        });
    }

    private static void rangeErrors() {
        test(0, "RANGE_ERROR: an integer is outside its range.", () -> {
            good("volume a;write a 0 1;write a 11 9;trim a 0;trim a 11;", 5);
            errorAt("volume a;write a ^12 1;", RANGE);
            errorAt("volume a;write a 0 ^0;", RANGE);
            errorAt("volume a;write a 0 ^10;", RANGE);
            errorAt("volume a;trim a ^12;", RANGE);
            good("set pool 1;set clones 0;", 2);
            good("set pool 999;set clones 5;", 2);
            errorAt("set pool ^0;", RANGE);
            errorAt("set pool ^1000;", RANGE);
            errorAt("set clones ^6;", RANGE);
        });
    }

    private static void nameErrors() {
        test(0, "NAME_ERROR: a name that is none of the sort that it must be.", () -> {
            errorAt("write ^a 0 1;", NAME);
            errorAt("trim ^a 0;", NAME);
            errorAt("snap ^a s;", NAME);
            errorAt("clone ^s b;", NAME);
            errorAt("hold ^s;", NAME);
            errorAt("volume a;snap a s;clone s b;hold ^b;", NAME);
            errorAt("volume a;write ^aa 0 1;", NAME);
            errorAt("volume aa;write ^a 0 1;", NAME);
        });
    }

    private static void duplicateErrors() {
        test(0, "DUPLICATE_ERROR: the name of a new thing that another one of its sort has", () -> {
            errorAt("volume a;volume ^a;", DUPLICATE);
            errorAt("volume a;snap a s;clone s ^a;", DUPLICATE);
            errorAt("volume a;snap a s;clone s b;volume ^b;", DUPLICATE);
            errorAt("volume a;volume b;snap a s;snap b ^s;", DUPLICATE);
            errorAt("volume abcdef;volume ^abcdef;", DUPLICATE);
            good("volume abcdef;volume abcdeg;volume abcde;", 3);
        });
        test(0, "a snapshot that is held already", () -> {
            errorAt("volume a;snap a s;hold s;hold ^s;", DUPLICATE);
            good("volume a;snap a s;snap a t;hold t;hold s;", 5);
        });
        test(0, "the name of a setting that was already given.", () -> {
            errorAt("set pool 5;set ^pool 5;", DUPLICATE);
            errorAt("set clones 5;volume a;set ^clones 5;", DUPLICATE);
            errorAt("set clones 5;set pool 5;set ^clones 5;", DUPLICATE);
            good("set clones 5;set pool 5;", 2);
        });
    }

    private static void countErrors() {
        test(0, "COUNT_ERROR: the first word of a statement that makes a seventh volume or a 17th snapshot", () -> {
            good(SIX, 6);
            errorAt(SIX + " ^volume g;", COUNT);
            errorAt(SIX + "snap a s;^clone s g;", COUNT);
            errorAt(SIX.replace("volume f;", "snap a s;clone s f;") + "^clone s g;", COUNT);
            good(SIX + "snap a s;", 7);
            good(sixteenSnapshots(), 17);
            errorAt(sixteenSnapshots() + "^snap a q;", COUNT);
            errorAt(sixteenSnapshots() + "volume b;^snap b q;", COUNT);
            good(sixteenSnapshots() + "volume b;clone p c;", 19);
        });
    }

    private static void clonesCounted() {
        test(0, "the name of a snapshot that is the origin of as many volumes as CLONES allows by what was told ahead", () -> {
            String three = "volume a;snap a s;snap a t;clone s b;clone s c;clone s d;";
            good(three, 6);
            errorAt(three + "clone ^s e;", COUNT);
            good(three + "clone t e;", 7);
            good(three + "set clones 4;clone s e;", 8);
            errorAt(three + "set clones 4;clone s e;clone ^s f;", COUNT);
            errorAt("set clones 1;volume a;snap a s;clone s b;clone ^s c;", COUNT);
            good("set clones 5;" + three + "clone s e;clone s f;", 9);
        });
        test(0, "(of none, if this is 0)", () -> {
            errorAt("set clones 0;volume a;snap a s;clone ^s b;", COUNT);
            good("set clones 1;volume a;snap a s;clone s b;", 4);
        });
    }

    private static void fullErrors() {
        test(0, "FULL_ERROR: the size of a write that is not possible.", () -> {
            errorAt("set pool 8;volume a;write a 0 ^9;", FULL_ERROR);
            good("set pool 8;volume a;write a 0 8;write a 0 8;", 4);
            errorAt("set pool 8;volume a;write a 0 8;write a 1 ^1;", FULL_ERROR);
            errorAt("set pool 8;volume a;write a 0 8;snap a s;write a 0 ^1;", FULL_ERROR);
            good("set pool 8;volume a;write a 0 7;snap a s;write a 0 1;", 5);
            StringBuilder most = new StringBuilder("volume a;volume b;");
            for (int i = 0; i < 22; i++) {
                most.append("write ").append(i < 12 ? 'a' : 'b').append(' ').append(i % 12).append(" 9;");
            }
            good(most + "write b 10 2;", 25);
            errorAt(most + "write b 10 ^3;", FULL_ERROR);
        });
    }

    private static void feeding() {
        test(2, "Appends 20 bytes to the input buffer: the four bytes of each parameter, most significant byte first.", () -> {
            for (int place = 0; place < 20; place++) {
                int[] words = new int[5];
                Arrays.fill(words, 0x20202020);
                words[place / 4] |= 0xff << 24 - 8 * (place % 4);
                SnapshotVolumes x = new SnapshotVolumes();
                x.feed(words[0], words[1], words[2], words[3], words[4]);
                due("load with a byte 255 at " + place, x.load(20), SYNTAX);
                due("errorPosition", x.errorPosition(), place);
            }
            SnapshotVolumes x = new SnapshotVolumes();
            x.feed(0x766f6c75, 0x6d652061, 0x6263643b, 0x0a0a2020, 0x20202020);
            due("load", x.load(20), 1);
            due("named", x.named(false, Pools.letters("abcd")), 0);
        });
        test(2, "`a`: first four bytes", () -> {
            SnapshotVolumes x = new SnapshotVolumes();
            x.feed(0x0a207f20, 0x20202020, 0x20202020, 0x20202020, 0x20202020);
            due("load", x.load(20), SYNTAX);
            due("errorPosition", x.errorPosition(), 2);
        });
        test(2, "`e`: last four bytes", () -> {
            SnapshotVolumes x = new SnapshotVolumes();
            x.feed(0x20202020, 0x20202020, 0x20202020, 0x20202020, 0x0a2020ff);
            due("load of all but the last byte", x.load(19), 0);
            x.feed(0x20202020, 0x20202020, 0x20202020, 0x20202020, 0x0a2020ff);
            due("load", x.load(20), SYNTAX);
            due("errorPosition", x.errorPosition(), 19);
        });
        test(2, "Returns the new number of bytes in the buffer", () -> {
            SnapshotVolumes x = new SnapshotVolumes();
            for (int i = 1; i <= 50; i++) {
                due("feed", x.feed(-1, MIN, MAX, 0, 1), 20 * i);
            }
            x.load(0);
            due("feed behind a load", x.feed(0, 0, 0, 0, 0), 20);
        });
        test(2, "FULL if the buffer would hold more than 1000 bytes (nothing is appended then).", () -> {
            SnapshotVolumes x = new SnapshotVolumes();
            Pools.feed(x, " ".repeat(991) + "volume a;");
            due("a 51st", x.feed(0x3b3b3b3b, 0, 0, 0, 0), FULL);
            due("a 52nd", x.feed(0x3b3b3b3b, 0, 0, 0, 0), FULL);
            due("load(1001)", x.load(1001), BAD);
            due("load(1000)", x.load(1000), 1);
        });
    }

    private static void loading() {
        test(3, "Replaces the pool by the one that the first length bytes of the input buffer describe (see TEXT FORMAT) and "
            + "empties the buffer.", () -> {
            SnapshotVolumes x = Pools.full();
            Pools.feed(x, "volume a;write a 0 5;volume b;");
            due("load of a part", x.load(21), 2);
            due("volumes", x.count(0), 1);
            due("snapshots", x.count(1), 0);
            due("blocks", x.count(2), 1);
            due("isThere(0)", x.isThere(0), false);
            due("isThere(17)", x.isThere(17), false);
            due("feed", x.feed(0, 0, 0, 0, 0), 20);
            x = new SnapshotVolumes();
            Pools.feed(x, "volume abc;");
            due("a word that is cut off", x.load(8), SYNTAX);
            due("its end is the end", x.errorPosition(), 8);
            Pools.feed(x, "set pool 123;");
            x.load(0);
            Pools.feed(x, "volume a;write a 0 11;");
            due("a number that is cut off", x.load(20), SYNTAX);
            due("its end is the end", x.errorPosition(), 20);
        });
        test(3, "The text begins with an empty pool, initial settings and the time 0.", () -> {
            SnapshotVolumes x = Pools.busy();
            due("load of nothing", x.load(0), 0);
            same("the pool", Pools.dump(x).replaceAll("(?s)\nbuffers.*", ""),
                Pools.dump(new SnapshotVolumes()).replaceAll("(?s)\nbuffers.*", ""));
            x = Pools.busy();
            x.load(0);
            due("load", Pools.load(x, "volume a;volume c;snap a s;clone s d;clone s e;clone s f;hold s;write a 0 9;"), 8);
            due("POOL", x.getSetting(POOL), 200);
            due("CLONES", x.getSetting(CLONES), 3);
            due("quota", x.volumeNumber(0, 2), 0);
            due("time", x.count(3), 2);
        });
        test(3, "The text begins with an empty pool, initial settings and the time 0.", () -> {
            SnapshotVolumes x = Pools.loaded("set clones 4;set pool 5;volume a;snap a s;snap a t;hold t;");
            due("what was told in another text", Pools.load(x, "set pool 6;set clones 2;volume a;snap a s;snap a t;hold s;"), 6);
            due("s is held", x.snapshotNumber(0, 2), 1);
            due("t is held no more", x.snapshotNumber(1, 2), 0);
            due("what was told in a text with an error", Pools.load(x, "set pool 7;volume a;snap a s;hold s;_"), SYNTAX);
            due("load", Pools.load(x, "set pool 8;volume a;snap a s;hold s;"), 4);
            due("POOL", x.getSetting(POOL), 8);
            due("CLONES", x.getSetting(CLONES), 3);
            due("hold", x.hold(0, false), 0);
        });
        test(3, "After a successful load nothing can be undone; what was written to the output buffer stays.", () -> {
            SnapshotVolumes x = Pools.busy();
            due("load", x.load(9), 1);
            due("undoCount", x.undoCount(), 0);
            due("undo", x.undo(), NONE);
            due("outputAt(0)", x.outputAt(0), 'c');
            due("outputAt(1)", x.outputAt(1), ':');
        });
    }

    /** What a dump tells of the pool alone. */
    private static String poolIn(String dump) {
        return dump.replaceAll(" error at -?[0-9]+", "").replaceAll("(?s)\nbuffers.*", "");
    }

    private static void failedLoading() {
        test(3, "If the text has an error, nothing but the buffer changes: it is emptied all the same.", () -> {
            String[] texts = {"volume b;_", "set pool 1;set clones 9;", "volume b;write c 0 1;", "volume b;volume b;", SIX + "volume g;",
                "set pool 1;volume b;write b 0 2;", "volume b;snap b s;hold s;clone s c;set clones"};
            for (String text : texts) {
                for (int undone = 0; undone <= Pools.BUSY_CHANGES; undone++) {
                    SnapshotVolumes x = Pools.busy();
                    SnapshotVolumes without = Pools.busy();
                    Pools.feed(x, text);
                    due("load of " + text, x.load(20 + text.length()) < 0, true);
                    for (int i = 0; i < undone; i++) {
                        x.undo();
                        without.undo();
                    }
                    same("the pool", poolIn(Pools.dump(x)), poolIn(Pools.dump(without)));
                }
                SnapshotVolumes x = Pools.busy();
                Pools.feed(x, text);
                x.load(20 + text.length());
                due("load behind it", x.load(1), BAD);
                due("feed", x.feed(0, 0, 0, 0, 0), 20);
                due("outputAt(0)", x.outputAt(0), 'c');
            }
        });
    }

    private static void lengths() {
        test(3, "`length`: number of bytes to read, from 0 to the number of bytes in the buffer", () -> {
            SnapshotVolumes x = new SnapshotVolumes();
            due("load(0) of none", x.load(0), 0);
            due("load(1) of none", x.load(1), BAD);
            Pools.feed(x, "volume a;");
            due("load(20)", x.load(20), 1);
            Pools.feed(x, "volume a;");
            due("load(0)", x.load(0), 0);
            due("volumes", x.count(0), 0);
        });
        test(3, "BAD_VALUE if length is out of range (the buffer is unchanged then)", () -> {
            SnapshotVolumes x = new SnapshotVolumes();
            Pools.feed(x, "volume a;");
            for (int length : outside(0, 20)) {
                due("load(" + length + ")", x.load(length), BAD);
            }
            due("load(20)", x.load(20), 1);
        });
        test(3, "Returns the number of statements", () -> {
            good("", 0);
            good("volume a;" + "trim a 0;".repeat(110), 111);
        });
        test(3, "SYNTAX_ERROR, RANGE_ERROR, NAME_ERROR, DUPLICATE_ERROR, COUNT_ERROR or FULL_ERROR.", () -> {
            errorAt("volume a^", SnapshotVolumes.SYNTAX_ERROR);
            errorAt("volume a;trim a ^12;", SnapshotVolumes.RANGE_ERROR);
            errorAt("volume a;trim ^b 0;", SnapshotVolumes.NAME_ERROR);
            errorAt("volume a;volume ^a;", SnapshotVolumes.DUPLICATE_ERROR);
            errorAt(SIX + "^volume g;", SnapshotVolumes.COUNT_ERROR);
            errorAt("set pool 1;volume a;write a 0 ^2;", SnapshotVolumes.FULL_ERROR);
        });
    }

    private static void positions() {
        test(4, "Returns the position of the error of the latest load that did not return BAD_VALUE.", () -> {
            SnapshotVolumes x = new SnapshotVolumes();
            Pools.load(x, "volume ;");
            due("errorPosition", x.errorPosition(), 7);
            due("load(-1)", x.load(-1), BAD);
            due("load(1)", x.load(1), BAD);
            due("errorPosition behind BAD_VALUE", x.errorPosition(), 7);
            x.newVolume();
            x.write(0, 0, 10);
            x.undo();
            due("errorPosition behind changes", x.errorPosition(), 7);
            Pools.load(x, "  _");
            due("errorPosition of the next one", x.errorPosition(), 2);
        });
        test(4, "Returns the position in bytes from the start of the text", () -> {
            errorAt("^_", SYNTAX);
            errorAt(" ".repeat(999) + "^_", SYNTAX);
            errorAt(" ".repeat(994) + "volume^", SYNTAX);
            SnapshotVolumes x = new SnapshotVolumes();
            x.feed(-1, -1, -1, -1, -1);
            x.load(20);
            due("bytes 255", x.errorPosition(), 0);
        });
        test(4, "NOT_FOUND if that load had no error or there was none.", () -> {
            SnapshotVolumes x = new SnapshotVolumes();
            due("errorPosition without a load", x.errorPosition(), NONE);
            x.load(-1);
            due("errorPosition behind BAD_VALUE alone", x.errorPosition(), NONE);
            Pools.load(x, "_");
            Pools.load(x, "volume a;");
            due("errorPosition behind a good load", x.errorPosition(), NONE);
            Pools.load(x, "_");
            x.load(0);
            due("errorPosition behind an empty one", x.errorPosition(), NONE);
        });
    }
}
