/** Section 1 and promises 1 to 6, at the bounds: each check stands behind the sentence that it is about. */
public final class SetupBoundsTest {
    private static final String[] SETTINGS = {"lanes", "window", "queue", "ops", "rate", "loop"};
    private static final String[] KINDS =
            {"nop", "add", "mov", "load", "store", "cmp", "test", "div", "jump", "branch"};
    private static final String SIX_RULES =
            "fuse nop nop;fuse nop add;fuse add nop;fuse div div;fuse div jump;fuse div branch;";

    private SetupBoundsTest() {
    }

    public static void main(String[] args) {
        newObject();
        inputBuffer();
        fedBytes();
        shortened();
        fullText();
        emptyTexts();
        settingRanges();
        settingsOnce();
        sixRules();
        firstKinds();
        rulesOnce();
        repeatCounts();
        nestedRepeats();
        bodies();
        sixtyInstructions();
        backTargets();
        aheadTargets();
        targetsBehind();
        timesRange();
        words();
        numbers();
        spaces();
        moreIsRequired();
        firstError();
        smallestCode();
        codes();
        parsed();
        latestError();
        Checks.end();
    }

    private static String times(int many, String text) {
        return text.repeat(many);
    }

    private static void newObject() {
        Checks.sentence("Creates a front end as if an empty text had been parsed, with an empty input buffer.");
        FusionFront parsed = new FusionFront();
        Checks.same("empty text", parsed.parse(), 0);
        FusionFront front = new FusionFront();
        Twins.sameCycles("new", front, parsed);
        FusionFront other = new FusionFront();
        Checks.fails("nothing to keep", other.truncate(1));
        Checks.same("the first bytes", other.feed(0, 0, 0, 0, 0), 20);
    }

    private static void inputBuffer() {
        Checks.sentence("The input buffer holds at most 600 bytes.");
        FusionFront front = new FusionFront();
        for (int length = 20; length <= 600; length += 20) {
            Checks.same("to " + length, front.feed(0, 0, 0, 0, 0), length);
        }
        Checks.same("beyond", front.feed(0, 0, 0, 0, 0), FusionFront.NONE);
        Checks.sentence("Returns the new length of the buffer; NONE, with no change, if it would exceed 600.");
        // All bytes are spaces but the last ones, which a call that is refused must not touch.
        FusionFront kept = new FusionFront();
        for (int length = 0; length < 600; length += 20) {
            kept.feed(0x20202020, 0x20202020, 0x20202020, 0x20202020, length < 580 ? 0x20202020 : 0x6e6f703b);
        }
        Checks.same("600 and 20", kept.feed(-1, -1, -1, -1, -1), FusionFront.NONE);
        Checks.fails("no longer than 600", kept.truncate(601));
        Checks.holds("still 600", kept.truncate(600));
        Checks.same("the bytes stay", kept.parse(), 1);
        for (int length = 581; length < 600; length++) {
            FusionFront full = new FusionFront();
            for (int call = 0; call < 30; call++) {
                full.feed(0x20202020, 0x20202020, 0x20202020, 0x20202020, 0x20202020);
            }
            full.truncate(length);
            Checks.same(length + " and 20", full.feed(-1, -1, -1, -1, -1), FusionFront.NONE);
            Checks.fails(length + " has not grown", full.truncate(length + 1));
            Checks.holds(length + " stays", full.truncate(length));
            Checks.same(length + " spaces", full.parse(), 0);
        }
        kept = new FusionFront();
        for (int call = 0; call < 30; call++) {
            kept.feed(0, 0, 0, 0, 0);
        }
        kept.truncate(580);
        Checks.same("580 and 20", kept.feed(0, 0, 0, 0, 0), 600);
    }

    private static void fedBytes() {
        Checks.sentence("Appends twenty bytes to the input buffer: the four bytes of each parameter, the most "
                + "significant byte first.");
        // Twenty bytes of text: one that belongs to no token tells by its offset where it stands.
        for (int index = 0; index < 20; index++) {
            int[] bytes = new int[5];
            for (int word = 0; word < 5; word++) {
                bytes[word] = 0x20202020;
            }
            bytes[index / 4] |= 0xe0 << 24 - index % 4 * 8;
            FusionFront front = new FusionFront();
            Checks.same("fed", front.feed(bytes[0], bytes[1], bytes[2], bytes[3], bytes[4]), 20);
            Checks.same("byte 224 at " + index, front.parse(), FusionFront.NONE);
            Checks.same("offset " + index, front.errorOffset(), index);
            front.feed(0x20202020, 0x20202020, 0x20202020, 0x20202020, 0x20202020);
            front.feed(bytes[0], bytes[1], bytes[2], bytes[3], bytes[4]);
            front.parse();
            Checks.same("offset behind twenty " + index, front.errorOffset(), 20 + index);
        }
    }

    private static void shortened() {
        Checks.sentence("Returns true; false, with no change, if length is negative or greater than the length of "
                + "the buffer.");
        FusionFront front = new FusionFront();
        Checks.holds("0 of the empty one", front.truncate(0));
        Checks.fails("1 of the empty one", front.truncate(1));
        Checks.fails("-1 of the empty one", front.truncate(-1));
        front.feed(0x6e6f703b, 0x6164643b, 0x6d6f763b, 0x6e6f703b, 0x6164643b);
        Checks.fails("21 of 20", front.truncate(21));
        Checks.fails("-1 of 20", front.truncate(-1));
        Checks.fails("least", front.truncate(Integer.MIN_VALUE));
        Checks.fails("greatest", front.truncate(Integer.MAX_VALUE));
        Checks.holds("20 of 20", front.truncate(20));
        Checks.sentence("Shortens the input buffer to its first bytes.");
        Checks.holds("19 of 20", front.truncate(19));
        Checks.fails("20 of 19", front.truncate(20));
        Checks.holds("12 of 19", front.truncate(12));
        Checks.same("the first ones", front.parse(), 3);
        Checks.same("the third one", front.instruction(2, 0), 2);
        front.feed(0x78787878, 0, 0, 0, 0);
        Checks.holds("0 of 20", front.truncate(0));
        Checks.fails("1 of 0", front.truncate(1));
        Checks.same("nothing", front.parse(), 0);
    }

    private static void fullText() {
        Checks.sentence("The input buffer holds at most 600 bytes.");
        Checks.fine(times(300, " \n"), 0);
        Checks.fine(times(596, " ") + "nop;", 1);
        Checks.fine("nop;" + times(596, "\n"), 1);
        Checks.fine("nop" + times(596, " ") + ";", 1);
        Checks.fine(times(60, "long  nop;"), 60);
        Checks.error(times(599, " ") + "x", 1, 599);
        Checks.error(times(597, " ") + "nop", 1, 600);
        Checks.error("nop" + times(597, " "), 1, 600);
        Checks.error("nop;" + times(596, "x"), 1, 4);
        Checks.error("lanes " + times(594, "1"), 1, 6);
        Checks.error("repeat 9(" + times(591, " "), 1, 600);
    }

    private static void emptyTexts() {
        Checks.sentence("braces mean any number of times");
        Checks.fine("", 0);
        Checks.fine(" ", 0);
        Checks.fine("\n", 0);
        Checks.fine("repeat 1();", 0);
        Checks.fine("repeat 9(repeat 9( ); );", 0);
        Checks.error(";", 1, 0);
        Checks.error("repeat 1(;);", 1, 9);
    }

    private static void settingRanges() {
        Checks.sentence("lanes is 1 to 6 (4 without the statement), window is 8, 16 or 32 (16), queue is 2 to 20 "
                + "(8), ops is 4 to 40 (16), rate is 1 to 8 (4), loop is 0 to 30 (0).");
        int[] least = {1, 8, 2, 4, 1, 0};
        int[] greatest = {6, 32, 20, 40, 8, 30};
        int[] usual = {4, 16, 8, 16, 4, 0};
        for (int setting = 0; setting < 6; setting++) {
            String word = SETTINGS[setting];
            Checks.same(word + " without", new FusionFront().count(2 + setting), usual[setting]);
            Checks.same(word + " without", Checks.made("nop;").count(2 + setting), usual[setting]);
            for (int value = 0; value <= 99; value++) {
                boolean allowed = value >= least[setting] && value <= greatest[setting];
                if (setting == 1) {
                    allowed = value == 8 || value == 16 || value == 32;
                }
                String text = word + " " + value + ";";
                if (allowed) {
                    Checks.same(text, Checks.made(text).count(2 + setting), value);
                } else {
                    Checks.error(text, 2, word.length() + 1);
                }
            }
        }
        FusionFront all = Checks.made("loop 30;rate 8;ops 40;queue 20;window 32;lanes 6;");
        for (int setting = 0; setting < 6; setting++) {
            Checks.same("all at once " + setting, all.count(2 + setting), greatest[setting]);
        }
    }

    private static void settingsOnce() {
        Checks.sentence("Each of these can stand once.");
        String all = "lanes 6;window 8;queue 9;ops 9;rate 7;loop 9;";
        Checks.fine(all, 0);
        Checks.sentence("3: the first word of a second statement of a setting;");
        for (String word : SETTINGS) {
            Checks.error(all + word + " 8;", 3, all.length());
            Checks.error(all + "nop; " + word, 3, all.length() + 5);
            String first = word.equals("lanes") ? "lanes 4;" : word + " 8;";
            Checks.error(first + first, 3, first.length());
        }
    }

    private static void sixRules() {
        Checks.sentence("There are at most 6 rules of fusion;");
        Checks.fine(SIX_RULES, 0);
        Checks.same("six", Checks.made(SIX_RULES).count(8), 6);
        Checks.same("none", Checks.made("nop;").count(8), 0);
        Checks.sentence("the first word of a 7th rule;");
        Checks.error(SIX_RULES + "fuse mov mov;", 4, SIX_RULES.length());
        Checks.error(SIX_RULES + "fuse nop nop;", 4, SIX_RULES.length());
        Checks.error(SIX_RULES + "nop;\nfuse", 4, SIX_RULES.length() + 5);
    }

    private static void firstKinds() {
        Checks.sentence("the first kind is neither jump nor branch;");
        for (int first = 0; first < 10; first++) {
            for (int second = 0; second < 10; second++) {
                String text = "fuse " + KINDS[first] + " " + KINDS[second] + ";";
                if (first >= 8) {
                    Checks.error(text, 3, 5);
                } else {
                    FusionFront front = Checks.made(text);
                    Checks.same(text + " first", front.rule(0, false), first);
                    Checks.same(text + " second", front.rule(0, true), second);
                }
            }
        }
        Checks.sentence("a first kind that is jump or branch.");
        Checks.error("fuse jump", 3, 5);
        Checks.error("nop;fuse  branch jump;", 3, 10);
    }

    private static void rulesOnce() {
        Checks.sentence("a rule stands once.");
        Checks.fine("fuse nop add;fuse add nop;fuse nop nop;fuse add add;", 0);
        Checks.sentence("the second kind of a rule that stands already;");
        Checks.error("fuse nop add;fuse nop add;", 3, 22);
        Checks.error("fuse nop add;nop;fuse nop add", 3, 26);
        String five = SIX_RULES.substring(0, SIX_RULES.lastIndexOf("fuse"));
        Checks.error(five + "fuse div jump;", 3, five.length() + 9);
        Checks.error(five + "fuse nop nop;", 3, five.length() + 9);
    }

    private static void repeatCounts() {
        Checks.sentence("\"repeat\" stands for what is in its brackets, 1 to 9 times;");
        for (int many = 1; many <= 9; many++) {
            Checks.fine("repeat " + many + "(nop;add;);", 2 * many);
            Checks.fine("repeat 0" + many + "(nop;add;);", 2 * many);
        }
        Checks.error("repeat 0(nop;);", 2, 7);
        Checks.error("repeat 00(nop;);", 2, 7);
        for (int many = 10; many <= 99; many++) {
            Checks.error("repeat " + many + "(nop;);", 2, 7);
        }
        Checks.error("repeat 100(nop;);", 1, 7);
        Checks.error("repeat 001(nop;);", 1, 7);
    }

    private static void nestedRepeats() {
        Checks.sentence("it may stand in the brackets of another one, but not in those of two.");
        Checks.fine("repeat 1(repeat 1(nop;););", 1);
        Checks.fine("repeat 2(repeat 2(nop;);repeat 3(add;););repeat 2(mov;);", 12);
        Checks.sentence("4: \"repeat\" in the brackets of two others;");
        Checks.error("repeat 1(repeat 1(repeat 1(nop;);););", 4, 18);
        Checks.error("repeat 1(repeat 1(nop;repeat", 4, 22);
        Checks.error("repeat 1(repeat 1(););repeat 1(repeat 1(repeat", 4, 40);
    }

    private static void bodies() {
        Checks.sentence("In its brackets only instructions and repeats can stand.");
        Checks.fine("repeat 2(long nop;repeat 1(jump ahead 0;););", 4);
        Checks.sentence("also a statement that is neither an instruction nor a repeat in the brackets of a repeat;");
        for (String word : SETTINGS) {
            Checks.error("repeat 2(" + word + " 8;);", 1, 9);
            Checks.error("repeat 2(repeat 2(nop;" + word + " 8;););", 1, 22);
            Checks.error("repeat 2(repeat 2(nop;);" + word + " 8;);", 1, 24);
        }
        Checks.error("repeat 2(fuse nop nop;);", 1, 9);
        Checks.error("repeat 2(repeat 2(nop;fuse nop nop;););", 1, 22);
        Checks.fine("repeat 2(repeat 2(nop;););lanes 6;fuse nop nop;", 4);
    }

    private static void sixtyInstructions() {
        Checks.sentence("Instructions are numbered from 0 in the order in which they stand when all is repeated; "
                + "there are at most 60.");
        FusionFront front = Checks.made(times(59, "nop;") + "add;");
        Checks.same("the last one", front.instruction(59, 0), 1);
        Checks.same("before it", front.instruction(58, 0), 0);
        Checks.throwsOne("number 60", IndexOutOfBoundsException.class, () -> front.instruction(60, 0));
        Checks.fine("repeat 6(repeat 5(nop;add;););", 60);
        Checks.fine("repeat 1(" + times(60, "nop;") + ");", 60);
        Checks.fine(times(58, "nop;") + "repeat 2(add;);", 60);
        Checks.fine(times(60, "nop;") + "lanes 1;fuse nop nop;repeat 9();", 60);
        Checks.sentence("the first word of an instruction that would be the 61st or a later one, where the copies "
                + "that are still to come do not count;");
        String sixty = times(60, "nop;");
        for (String kind : KINDS) {
            Checks.error(sixty + kind, 4, 240);
        }
        Checks.error(sixty + "long nop;", 4, 240);
        Checks.error(sixty + "repeat 1(add", 4, 249);
        Checks.error("repeat 9(" + sixty + "add", 4, 249);
        Checks.error("repeat 9(repeat 9(" + sixty + "add", 4, 258);
        Checks.error("repeat 9(repeat 9(" + sixty + ");", 4, 258);
        Checks.fine("repeat 2(" + times(30, "nop;") + ");", 60);
        Checks.sentence("the closing bracket of a repeat with which there would be more than 60 instructions.");
        Checks.error("repeat 2(" + times(31, "nop;") + ");", 4, 133);
        Checks.error(times(59, "nop;") + "repeat 2(add;);", 4, 249);
        Checks.error("repeat 2(repeat 6(" + times(5, "nop;") + ");nop;);", 4, 44);
        Checks.fine("repeat 2(repeat 6(" + times(5, "nop;") + "););", 60);
        Checks.error("repeat 9(repeat 9(" + times(7, "nop;") + "););", 4, 46);
        Checks.error("repeat 9(repeat 9(nop;));", 1, 23);
        Checks.error("repeat 9(repeat 9(nop;););", 4, 24);
    }

    private static void backTargets() {
        Checks.sentence("The target \"back\" tells how many instructions back it is, from the jump or branch itself "
                + "(1 to the number of instructions before its first copy);");
        Checks.error("jump back 1;", 2, 10);
        Checks.error("jump back 0;", 2, 10);
        Checks.error("nop;jump back 0;", 2, 14);
        Checks.same("1 of 1", Checks.made("nop;jump back 1;").instruction(1, 4), 0);
        Checks.error("nop;jump back 2;", 2, 14);
        Checks.same("1 of 2", Checks.made("nop;nop;jump back 1;").instruction(2, 4), 1);
        String most = times(59, "nop;");
        Checks.same("59 of 59", Checks.made(most + "branch back 59 times 1;").instruction(59, 4), 0);
        Checks.error(most + "branch back 60 times 1;", 2, 248);
        Checks.error(most + "branch back 99 times 1;", 2, 248);
        Checks.error(most + "branch back 059 times 1;", 1, 248);
        // Behind a repeat all its copies stand before it; in a repeat, only those before the first copy.
        Checks.same("behind copies", Checks.made("repeat 3(nop;);jump back 3;").instruction(3, 4), 0);
        Checks.error("repeat 3(nop;);jump back 4;", 2, 25);
        FusionFront copies = Checks.made("nop;repeat 3(nop;jump back 2;);");
        for (int copy = 0; copy < 3; copy++) {
            Checks.same("copy " + copy, copies.instruction(2 + 2 * copy, 4), 2 * copy);
        }
        Checks.error("nop;repeat 3(nop;jump back 3;);", 2, 27);
        Checks.error("repeat 3(jump back 1;);", 2, 19);
        Checks.fine("nop;repeat 2(repeat 2(jump back 1;);jump back 3;);", 7);
        Checks.error("nop;repeat 2(repeat 2(jump back 1;);jump back 4;);", 2, 46);
    }

    private static void aheadTargets() {
        Checks.sentence("\"ahead\" tells how many instructions are skipped (0 to 9).");
        for (int skipped = 0; skipped <= 9; skipped++) {
            FusionFront front = Checks.made("jump ahead " + skipped + ";" + times(20, "nop;"));
            Checks.same("ahead " + skipped, front.instruction(0, 4), 1 + skipped);
            front = Checks.made("branch ahead 0" + skipped + " times 1;" + times(20, "nop;"));
            Checks.same("branch ahead " + skipped, front.instruction(0, 4), 1 + skipped);
        }
        for (int skipped = 10; skipped <= 99; skipped++) {
            Checks.error("jump ahead " + skipped + ";" + times(100, " "), 2, 11);
        }
        Checks.error("jump ahead 009;", 1, 11);
    }

    private static void targetsBehind() {
        Checks.sentence("A target behind the last instruction is the end.");
        FusionFront front = Checks.made("jump ahead 1;jump ahead 1;jump ahead 0;");
        Checks.same("the last one", front.instruction(0, 4), 2);
        Checks.same("just behind it", front.instruction(1, 4), 3);
        Checks.same("the last one's next", front.instruction(2, 4), 3);
        front = Checks.made("branch ahead 9 times 1;repeat 2(branch ahead 2 times 1;);jump ahead 9;");
        int[] targets = {4, 4, 4, 4};
        for (int number = 0; number < 4; number++) {
            Checks.same("far behind it " + number, front.instruction(number, 4), targets[number]);
        }
        front = Checks.made(times(50, "nop;") + "jump ahead 8;jump ahead 8;" + times(8, "jump ahead 9;"));
        Checks.same("59 of 60", front.instruction(50, 4), 59);
        Checks.same("60 of 60", front.instruction(51, 4), 60);
        Checks.same("69 of 60", front.instruction(59, 4), 60);
    }

    private static void timesRange() {
        Checks.sentence("times is 1 to 99.");
        Checks.error("branch ahead 0 times 0;", 2, 21);
        Checks.error("branch ahead 0 times 00;", 2, 21);
        for (int many = 1; many <= 99; many++) {
            Checks.same("times " + many, Checks.made("branch ahead 0 times " + many + ";").instruction(0, 5), many);
        }
        Checks.error("branch ahead 0 times 100;", 1, 21);
        Checks.error("branch ahead 0 times 099;", 1, 21);
    }

    private static void words() {
        Checks.sentence("A word is a maximal run of the letters a to z,");
        for (int sign = 0; sign < 256; sign++) {
            // The sign stands behind a word, so that the word is another one if it is a letter.
            String text = "nop" + (char) sign + ";";
            boolean letter = sign >= 'a' && sign <= 'z';
            if (sign == ' ' || sign == '\n') {
                Checks.fine(text, 1);
            } else {
                Checks.error(text, 1, letter ? 0 : sign == ';' ? 4 : 3);
            }
        }
        Checks.error("nopadd;", 1, 0);
        Checks.error("no p;", 1, 0);
        Checks.error("nop add;", 1, 4);
        Checks.error("longnop;", 1, 0);
        Checks.fine("long nop;", 1);
        Checks.error("long\n\nnopp;", 1, 6);
    }

    private static void numbers() {
        Checks.sentence("a number is a maximal run of digits, 1 or 2 of them.");
        Checks.fine("queue 9;", 0);
        Checks.fine("queue 09;", 0);
        Checks.fine("queue 20;", 0);
        Checks.error("queue 009;", 1, 6);
        Checks.error("queue 2 0;", 1, 8);
        Checks.error("queue 0 9;", 2, 6);
        Checks.sentence("a number that is too long;");
        Checks.error("queue 020;", 1, 6);
        Checks.error("queue 99999999999;", 1, 6);
        Checks.error("queue 4294967298;", 1, 6);
        Checks.sentence("a number is a maximal run of digits, 1 or 2 of them.");
        for (int sign = 0; sign < 256; sign++) {
            String text = "queue 1" + (char) sign + ";";
            if (sign >= '0' && sign <= '9') {
                Checks.same(text, Checks.made(text).count(4), 10 + sign - '0');
            } else if (sign == ';' || sign == ' ' || sign == '\n') {
                Checks.error(text, 2, 6);
            } else {
                // 1 is out of range, and it stands before what cannot stand there.
                Checks.error(text, 2, 6);
                Checks.error(text.replace('1', '2'), 1, 7);
            }
        }
        Checks.fine("lanes4;nop;", 1);
        Checks.error("lanes4x;", 1, 6);
        Checks.error("4lanes;", 1, 0);
    }

    private static void spaces() {
        Checks.sentence("Spaces (byte 32) and line feeds (byte 10) may stand between tokens.");
        Checks.fine(" \nrepeat \n2 \n( \nbranch \nahead \n3 \ntimes \n1 \n; \n) \n; \n", 2);
        Checks.fine("fuse nop\nadd;lanes\n1;", 0);
        Checks.sentence("a byte that belongs to no token.");
        for (int sign = 0; sign < 256; sign++) {
            boolean token = sign >= 'a' && sign <= 'z' || sign >= '0' && sign <= '9' || sign == '(' || sign == ')'
                    || sign == ';';
            if (sign == ' ' || sign == '\n') {
                Checks.fine((char) sign + "nop;", 1);
            } else if (!token) {
                Checks.error((char) sign + "nop;", 1, 0);
                Checks.error("nop;" + (char) sign, 1, 4);
                Checks.error("lanes " + (char) sign, 1, 6);
            }
        }
    }

    private static void moreIsRequired() {
        Checks.sentence("An error has a code and an offset, which is the index of the first byte of the token at "
                + "fault, or the length of the text if more is required.");
        String[] tokens = {"lanes", "4", ";", "fuse", "nop", "add", ";", "repeat", "2", "(", "long", "branch", "ahead",
            "0", "times", "3", ";", ")", ";"};
        StringBuilder text = new StringBuilder();
        for (int many = 0; many <= tokens.length; many++) {
            boolean whole = many == 0 || many == 3 || many == 7 || many == tokens.length;
            for (String end : new String[] {"", " ", "\n", "   \n  "}) {
                String all = text + end;
                if (whole) {
                    Checks.fine(all, many == tokens.length ? 2 : 0);
                } else {
                    Checks.error(all, 1, all.length());
                }
            }
            if (many < tokens.length) {
                text.append(many == 0 ? "" : " ").append(tokens[many]);
            }
        }
        Checks.error("jump", 1, 4);
        Checks.error("nop;jump back", 1, 13);
        Checks.error("repeat 1(repeat 1(nop;);", 1, 24);
    }

    private static void firstError() {
        Checks.sentence("The first error from the left is reported;");
        Checks.error("lanes 7;x", 2, 6);
        Checks.error("x;lanes 7;", 1, 0);
        Checks.error("lanes 1;lanes 7;", 3, 8);
        Checks.error("fuse jump x;", 3, 5);
        Checks.error("fuse nop nop;fuse nop nop x", 3, 22);
        Checks.error(times(60, "nop;") + "long x;", 4, 240);
        Checks.error(times(60, "nop;") + "jump back 99;", 4, 240);
        Checks.error(SIX_RULES + "fuse jump nop;", 4, SIX_RULES.length());
        Checks.error("repeat 0 x", 2, 7);
        Checks.error("branch ahead 10 times 0;", 2, 13);
        Checks.error("repeat 1(repeat 1(repeat 0(", 4, 18);
    }

    private static void smallestCode() {
        Checks.sentence("if several codes apply to a token, the smallest one.");
        // 1 and 2: too long, and out of its range.
        Checks.error("lanes 100;", 1, 6);
        Checks.error("repeat 999(nop;);", 1, 7);
        Checks.error("jump ahead 100;", 1, 11);
        // 1 and 3: a second statement of a setting, in brackets.
        Checks.error("lanes 1;repeat 1(lanes 1;);", 1, 17);
        // 1 and 4: a 7th rule in brackets; a 61st instruction or a repeat that cannot stand there.
        Checks.error(SIX_RULES + "repeat 1(fuse mov mov;);", 1, SIX_RULES.length() + 9);
        Checks.error("repeat 1(repeat 1(long repeat", 1, 23);
        Checks.error("repeat 1(repeat 1(nop repeat", 1, 22);
        Checks.error(times(60, "nop;") + "repeat 1 nop;", 1, 249);
        Checks.error(times(60, "nop;") + "repeat nop;", 1, 247);
        // 1 and 4: a closing bracket that cannot stand there, and with which there would be too many.
        Checks.error("repeat 9(" + times(10, "nop;") + "nop);", 1, 52);
    }

    private static void codes() {
        Checks.sentence("1: a token that cannot stand there,");
        Checks.error("nop;)", 1, 4);
        Checks.error(");", 1, 0);
        Checks.error("(", 1, 0);
        Checks.error("7;", 1, 0);
        Checks.error("back;", 1, 0);
        Checks.error("long;", 1, 4);
        Checks.error("long long nop;", 1, 5);
        Checks.error("lanes ;", 1, 6);
        Checks.error("lanes four;", 1, 6);
        Checks.error("lanes 4 4;", 1, 8);
        Checks.error("fuse nop;", 1, 8);
        Checks.error("fuse nop lanes;", 1, 9);
        Checks.error("fuse lanes nop;", 1, 5);
        Checks.error("jump 1;", 1, 5);
        Checks.error("nop;jump back;", 1, 13);
        Checks.error("nop;jump back 1 times 1;", 1, 16);
        Checks.error("branch ahead 0;", 1, 14);
        Checks.error("branch ahead 0 times;", 1, 20);
        Checks.error("branch times 3;", 1, 7);
        Checks.error("repeat 1(nop;;);", 1, 13);
        Checks.error("repeat 1(nop;)nop;", 1, 14);
        Checks.error("repeat 1)", 1, 8);
        Checks.sentence("2: a number that is out of its range.");
        Checks.error("lanes 0;", 2, 6);
        Checks.error("window 0;", 2, 7);
        Checks.error("loop 31;", 2, 5);
    }

    private static void parsed() {
        Checks.sentence("On success everything but the output is as at first, with the setup of the text: no cycle "
                + "has passed, nothing can be undone, and no state is saved.");
        FusionFront front = Checks.made("lanes 1;loop 9;fuse nop nop;nop;jump back 1;");
        front.printInstruction(1);
        front.run(9);
        front.saveState();
        front.stall(99);
        Checks.same("the empty text", front.parse(), 0);
        FusionFront fresh = new FusionFront();
        Twins.sameCycles("empty text", front, fresh);
        Checks.holds("the output stays", Checks.output(front).equals("1 jump 0"));
        Checks.throwsOne("no state is saved", IllegalStateException.class, front::restoreState);
        FusionFront other = Checks.made("nop;");
        other.run(1);
        Checks.same("a text", Checks.parse(other, "add;"), 1);
        Checks.same("changes", other.count(24), 0);
        Checks.throwsOne("nothing can be undone", IllegalStateException.class, other::undo);
        Checks.sentence("Parses the input buffer and empties it, whether it succeeds or not.");
        Checks.fails("it is empty", other.truncate(1));
        Checks.same("an error", Checks.parse(other, "add"), FusionFront.NONE);
        Checks.fails("it is empty again", other.truncate(1));
        Checks.sentence("NONE if the text has an error, in which case everything but the buffer and the error is "
                + "kept.");
        Checks.same("instructions", other.count(0), 1);
        FusionFront kept = Checks.made("lanes 3;nop;add;");
        FusionFront twin = Checks.made("lanes 3;nop;add;");
        for (FusionFront one : new FusionFront[] {kept, twin}) {
            one.run(1);
            one.saveState();
            one.stall(5);
            one.printInstruction(1);
        }
        Checks.parse(kept, "lanes 1;fuse nop nop;mov;mov;mov;lanes");
        Twins.whole("kept", kept, twin);
        Checks.holds("output", Checks.output(kept).equals("1 add"));
        Checks.same("undo", kept.undo(), twin.undo());
        Checks.same("saved", kept.restoreState(), twin.restoreState());
        Twins.sameCycles("kept", kept, twin);
    }

    private static void latestError() {
        Checks.sentence("Returns 1 to 4; 0 if that text had no error or there was no such call.");
        FusionFront front = new FusionFront();
        Checks.same("no call", front.errorCode(), 0);
        String[] texts = {"x", "lanes 0;", "fuse jump", "repeat 1(repeat 1(repeat", "nop;"};
        for (int index = 0; index < texts.length; index++) {
            Checks.parse(front, texts[index]);
            Checks.same(texts[index], front.errorCode(), (index + 1) % 5);
        }
        Checks.sentence("Returns the offset; NONE if that text had no error or there was no such call.");
        Checks.same("no error", front.errorOffset(), FusionFront.NONE);
        Checks.same("no call", new FusionFront().errorOffset(), FusionFront.NONE);
        Checks.parse(front, "x");
        Checks.same("the first byte", front.errorOffset(), 0);
        Checks.same("the empty text", front.parse(), 0);
        Checks.same("no error again", front.errorOffset(), FusionFront.NONE);
        Checks.same("no code again", front.errorCode(), 0);
    }
}
