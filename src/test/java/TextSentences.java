/** The sentences of POOL TEXT: tokens, grammar, ranges, parse errors. */
final class TextSentences {
    private static final String[] ONCE = {"quorum 1 1", "cap 1", "costs 0", "reserve 0", "late 0 0",
        "credit 0 0", "penalty 0", "weight 1"};

    private TextSentences() {
    }

    static void run() {
        tokens();
        grammar();
        numbers();
        ranges();
        errors();
    }

    private static void tokens() {
        Sentences.of("POOL TEXT")
                .says("A pool is described by a text of at most 700 bytes.", TextSentences::bytes700)
                .says("Spaces (byte 32) and line feeds (byte 10) separate tokens and are otherwise ignored.",
                        TextSentences::blanks)
                .says("A token is a word (a maximal run of letters a to z, 1 to 8 letters), a number (a maximal run"
                        + " of digits, 1 to 4 digits) or one of the characters ; ( ) + - * / .",
                        TextSentences::tokenKinds)
                .says("A longer run, and any other byte, is an invalid token.", TextSentences::invalidTokens);
    }

    private static void grammar() {
        Sentences.of("POOL TEXT")
                .says("pool = { statement \";\" }", TextSentences::pools)
                .says("statement = \"member\" day | \"version\" day price | \"patent\" member expiry"
                        + " | \"licensee\" discount", TextSentences::statementsOfThings)
                .says("| \"quorum\" votes percent | \"cap\" percent | \"costs\" percent | \"reserve\" percent"
                        + " | \"late\" days percent", TextSentences::statementsOfRules)
                .says("| \"credit\" amount percent | \"penalty\" percent | \"weight\" sum",
                        TextSentences::otherStatements)
                .says("sum = term { ( \"+\" | \"-\" ) term }", TextSentences::sums)
                .says("term = factor { ( \"*\" | \"/\" ) factor }", TextSentences::terms)
                .says("factor = number | \"patents\" | \"pairs\" | \"days\" | \"(\" sum \")\"",
                        TextSentences::factors)
                .says("All items without quotes, except those that are explained by the grammar, are numbers.",
                        TextSentences::itemsAreNumbers);
    }

    private static void numbers() {
        Sentences.of("POOL TEXT")
                .says("Members, versions, patents and licensees are numbered from 0, each in the order of the text.",
                        TextSentences::orderOfText)
                .says("There are at most 8 members, 4 versions, 16 patents and 6 licensees.",
                        TextSentences::mostThings)
                .says("Each other statement can occur once.", TextSentences::once);
    }

    private static void ranges() {
        Sentences.of("POOL TEXT")
                .says("Ranges: day is 0 to 9999, price 1 to 9999 (in cents for a unit), member a member that was"
                        + " declared before, expiry 1 to 9999, discount 0 to 100.", TextSentences::rangesOfThings)
                .says("votes is 1 to 5 and percent of quorum 1 to 100 (3 and 50 without the statement).",
                        TextSentences::rangeOfQuorum)
                .says("The percent of cap is 1 to 100 (100 without it), that of costs 0 to 50 (10), that of reserve"
                        + " 0 to 40 (5).", TextSentences::rangesOfParts)
                .says("days of late is 0 to 9999 and its percent 0 to 100 (0 and 100).", TextSentences::rangeOfLate)
                .says("amount is 0 to 9999 and percent of credit 0 to 100 (1000 and 20).",
                        TextSentences::rangeOfCredit)
                .says("The percent of penalty is 0 to 400 (50).", TextSentences::rangeOfPenalty)
                .says("A number in weight is 0 to 9999; without this statement the sum is \"patents\".",
                        TextSentences::rangeOfWeight);
    }

    private static void errors() {
        Sentences.of("POOL TEXT")
                .tellsNoCase("Parse errors have these codes.")
                .says("1: an invalid token, a token that the grammar does not allow at this place, or a text that"
                        + " ends too early.", TextSentences::code1)
                .says("2: the word of a second quorum, cap, costs, reserve, late, credit, penalty or weight.",
                        TextSentences::code2)
                .says("3: a number out of its range.", TextSentences::code3)
                .says("4: the word member, version, patent or licensee of a statement beyond its limit, or a \"(\""
                        + " while five \"(\" are open.", TextSentences::code4)
                .says("The error with the smallest position is reported.", TextSentences::smallestPosition)
                .says("If several codes apply at one position, the smallest is reported.",
                        TextSentences::smallestCode)
                .says("The position of an error is the index of the first byte of its token; if the text ends too"
                        + " early, it is the length of the text.", TextSentences::positions);
    }

    static void fine(String text) {
        Check.error(text, 0, -1);
    }

    // ---- tokens

    private static void bytes700() {
        String full = " ".repeat(691) + "member 7;";
        PatentPool pool = Check.pool(full);
        Check.same("the statement at the end of 700 bytes", 1, () -> pool.size(0));
        Check.same("the last of 700 bytes is read", 1, () -> {
            Check.put(pool, full);
            return pool.parse(699);
        });
        Check.same("the last of 700 bytes is read: place", 699, pool::errorPosition);
        Check.error(" ".repeat(699) + "!", 1, 699);
        Check.put(pool, full);
        Check.same("the buffer holds no more", -1, () -> pool.append(0, 0, 0, 0, 0));
        Check.argument("701 bytes are no text", () -> pool.parse(701));
        String most = "weight1" + "+1".repeat(346) + ";";
        Check.same("a text without blanks has 700 bytes", 700, most::length);
        PatentPool sum = Check.pool(most);
        sum.join();
        Check.same("a sum of 700 bytes", 347, () -> sum.weight(0));
    }

    private static void blanks() {
        fine("");
        fine(" ");
        fine("\n");
        fine(" \n\n  \n ");
        fine("\n\n member\n\n0  \n;  \nversion 0\n1;\n");
        fine("member0;version0 1;patent0 1;quorum1 1;");
        fine("weight ( ( 1 ) + 2 )\n*\n3 / 4 - 5 ;");
        Check.error("mem ber 0;", 1, 0);
        Check.error("mem\nber 0;", 1, 0);
        Check.error("member 1 2;", 1, 9);
        Check.error("member 1\n2;", 1, 9);
        Check.error("weight pat ents;", 1, 7);
        for (int other : new int[] {0, 9, 11, 12, 13, 31, 33, 160, 133, 138, 255}) {
            Check.error("member 0;" + (char) other, 1, 9);
            Check.error("member" + (char) other + "0;", 1, 6);
        }
    }

    private static void tokenKinds() {
        fine("licensee 0;");
        fine("member 0000;member 0009;member 9999;");
        fine("weight(1)+2-3*4/5;");
        Check.error("caps 5;", 1, 0);
        Check.error("ca 5;", 1, 0);
        Check.error("c", 1, 0);
        Check.error("zcap 5;", 1, 0);
        Check.error("capz 5;", 1, 0);
        Check.error("acap 5;", 1, 0);
        Check.error("capa 5;", 1, 0);
        Check.error("weight patentspairs;", 1, 7);
        Check.error("bap 5;", 1, 0);
        Check.error("cup 5;", 1, 0);
        Check.error("car 5;", 1, 0);
        Check.error("weight rays;", 1, 7);
        for (int b = 0; b < 256; b++) {
            boolean blank = b == ' ' || b == '\n';
            boolean digit = b >= '0' && b <= '9';
            boolean letter = b >= 'a' && b <= 'z';
            boolean operator = b == '+' || b == '-' || b == '*' || b == '/';
            if (digit || operator) {
                fine("weight 1" + (char) b + "1;");
            } else {
                Check.error("weight 1" + (char) b + "1;", 1, blank || b == ';' ? 9 : 8);
            }
            if (digit || blank) {
                fine("cap" + (char) b + "5;");
            } else {
                Check.error("cap" + (char) b + "5;", 1, letter ? 0 : 3);
            }
        }
    }

    private static void invalidTokens() {
        Check.error("licensees 5;", 1, 0);
        Check.error("memberabc 5;", 1, 0);
        Check.error("a".repeat(700), 1, 0);
        Check.error("member 00000;", 1, 7);
        Check.error("member 00001;", 1, 7);
        Check.error("member 10000;", 1, 7);
        Check.error("weight 10000;", 1, 7);
        Check.error("cap 00005;", 1, 4);
        Check.error("cap 4294967301;", 1, 4);
        Check.error("cap 18446744073709551621;", 1, 4);
        Check.error("cap " + "1".repeat(696), 1, 4);
        Check.error("cap " + "0".repeat(694) + "5;", 1, 4);
        for (int other : new int[] {0, 1, '!', '"', '#', '$', '%', '&', '\'', ',', '.', ':', '<', '=', '>', '?',
            '@', 'A', 'Z', '[', '\\', ']', '^', '_', '`', '{', '|', '}', '~', 127, 128, 155, 168, 171, 187, 225,
            255}) {
            Check.error("cap 5" + (char) other, 1, 5);
            Check.error("cap 5;" + (char) other, 1, 6);
            Check.error((char) other + "cap 5;", 1, 0);
            Check.error("weight 1+" + (char) other, 1, 9);
        }
    }

    // ---- grammar

    private static void pools() {
        fine("");
        fine("cap 5;");
        fine("cap 5;costs 5;");
        Check.error(";", 1, 0);
        Check.error("cap 5;;", 1, 6);
        Check.error("cap 5", 1, 5);
        Check.error("cap 5;costs 5", 1, 13);
        Check.error("cap 5 costs 5;", 1, 6);
        Check.error("5;", 1, 0);
        Check.error("(", 1, 0);
        Check.error("days;", 1, 0);
        Check.error("patents 0 5;", 1, 0);
        Check.error("members 0;", 1, 0);
    }

    /** A word wants just as many numbers; each shorter and each longer statement is refused. */
    private static void wants(String word, int numbers) {
        String text = "member 0;" + word;
        for (int number = 0; number < numbers; number++) {
            Check.error(text, 1, text.length());
            Check.error(text + ";", 1, text.length());
            text += number == 0 && word.equals("patent") ? " 0" : " 1";
        }
        Check.error(text, 1, text.length());
        fine(text + ";");
        Check.error(text + " 1;", 1, text.length() + 1);
    }

    private static void statementsOfThings() {
        wants("member", 1);
        wants("version", 2);
        wants("patent", 2);
        wants("licensee", 1);
    }

    private static void statementsOfRules() {
        wants("quorum", 2);
        wants("cap", 1);
        wants("costs", 1);
        wants("reserve", 1);
        wants("late", 2);
    }

    private static void otherStatements() {
        wants("credit", 2);
        wants("penalty", 1);
        wants("weight", 1);
        Check.error("weight;", 1, 6);
        Check.error("weight", 1, 6);
        fine("weight 1+1;");
        Check.error("cap 1+1;", 1, 5);
        Check.error("cap (1);", 1, 4);
    }

    private static void sums() {
        fine("weight 1;");
        fine("weight 1+2;");
        fine("weight 1-2+3-4;");
        fine("weight 1*2+3/4;");
        Check.error("weight +1;", 1, 7);
        Check.error("weight -1;", 1, 7);
        Check.error("weight 1+;", 1, 9);
        Check.error("weight 1-;", 1, 9);
        Check.error("weight 1++2;", 1, 9);
        Check.error("weight 1+-2;", 1, 9);
        Check.error("weight 1 2;", 1, 9);
        Check.error("weight 1+2", 1, 10);
        Check.error("weight 1+", 1, 9);
    }

    private static void terms() {
        fine("weight 1*2;");
        fine("weight 1/2*3/4;");
        Check.error("weight *1;", 1, 7);
        Check.error("weight /1;", 1, 7);
        Check.error("weight 1*;", 1, 9);
        Check.error("weight 1/;", 1, 9);
        Check.error("weight 1**2;", 1, 9);
        Check.error("weight 1*+2;", 1, 9);
        Check.error("weight 1*", 1, 9);
        Check.error("weight 1/)", 1, 9);
    }

    private static void factors() {
        fine("weight 0;");
        fine("weight patents;");
        fine("weight pairs;");
        fine("weight days;");
        fine("weight (1);");
        fine("weight ((1)+(2))*((3)-(4))/(5);");
        Check.error("weight ();", 1, 8);
        Check.error("weight (1;", 1, 9);
        Check.error("weight (1", 1, 9);
        Check.error("weight (", 1, 8);
        Check.error("weight 1);", 1, 8);
        Check.error("weight (1));", 1, 10);
        Check.error("weight );", 1, 7);
        Check.error("weight (1)(2);", 1, 10);
        Check.error("weight 1(2);", 1, 8);
        Check.error("weight (1;)", 1, 9);
        Check.error("weight patent;", 1, 7);
        Check.error("weight pair;", 1, 7);
        Check.error("weight day;", 1, 7);
        Check.error("weight weight;", 1, 7);
        Check.error("weight cap;", 1, 7);
    }

    private static void itemsAreNumbers() {
        for (String word : new String[] {"day", "days", "patents", "member", "percent", "sum", "(1)", "-1", ";"}) {
            Check.error("member " + word, 1, 7);
            Check.error("version 0 " + word, 1, 10);
            Check.error("member 0;patent " + word, 1, 16);
            Check.error("quorum 1 " + word, 1, 9);
            Check.error("credit " + word, 1, 7);
        }
    }

    // ---- numbers of things

    private static void orderOfText() {
        PatentPool pool = Check.pool("licensee 10;member 3;version 0 7;member 0;patent 1 20;licensee 20;patent 0 9;"
                + "version 0 8;member 9;patent 1 30;licensee 30;version 5 9;weight 5;");
        int[] sizes = {3, 3, 3, 3};
        for (int what = 0; what < 4; what++) {
            int kind = what;
            Check.same("size " + kind, sizes[kind], () -> pool.size(kind));
        }
        Check.same("member 0", 0, () -> pool.weightAfter(0, 2));
        Check.same("member 0 joins", 5, () -> pool.weightAfter(0, 3));
        Check.same("member 1", 5, () -> pool.weight(1));
        Check.same("member 2", 0, () -> pool.weightAfter(2, 8));
        Check.same("member 2 joins", 5, () -> pool.weightAfter(2, 9));
        Check.same("patent 0", 0, () -> pool.firstToExpire(1));
        Check.same("patent 1", 1, () -> pool.firstToExpire(0));
        Check.same("version 0 and licensee 0", 630, () -> pool.report(0, 0, 100));
        Check.same("version 0 and licensee 1", 560, () -> pool.report(1, 0, 100));
        Check.same("version 0 and licensee 2", 490, () -> pool.report(2, 0, 100));
        Check.same("version 1 and licensee 2", 560, () -> pool.report(2, 1, 100));
        Check.state("version 2", () -> pool.report(0, 2, 100));
        Check.index("member 3", () -> pool.weight(3));
        Check.index("version 3", () -> pool.reported(0, 3));
        Check.index("patent 3", () -> pool.decision(3, 0));
        Check.index("licensee 3", () -> pool.owed(3));
        pool.advance(20);
        Check.same("patent 2", 2, () -> pool.firstToExpire(1));
    }

    private static void mostThings() {
        PatentPool pool = Check.pool("member 0;".repeat(8) + "version 0 1;".repeat(4) + "patent 7 9;".repeat(16)
                + "licensee 0;".repeat(6));
        int[] most = {8, 4, 16, 6};
        for (int what = 0; what < 4; what++) {
            int kind = what;
            Check.same("most of kind " + kind, most[kind], () -> pool.size(kind));
        }
        Check.same("the last pair", 0, () -> pool.decision(15, 3));
        Check.same("the last licensee", 1, () -> pool.report(5, 3, 1));
        Check.same("the last member", 0, () -> pool.weight(7));
        Check.error("member 0;".repeat(9), 4, 72);
        Check.error("version 0 1;".repeat(5), 4, 48);
        Check.error("member 0;" + "patent 0 9;".repeat(17), 4, 9 + 176);
        Check.error("licensee 0;".repeat(7), 4, 66);
    }

    private static void once() {
        for (String first : ONCE) {
            fine(first + ";");
            for (String other : ONCE) {
                if (first.equals(other)) {
                    Check.error(first + ";" + other + ";", 2, first.length() + 1);
                } else {
                    fine(first + ";" + other + ";");
                }
            }
        }
        fine(String.join(";", ONCE) + ";");
        for (String again : ONCE) {
            String all = String.join(";", ONCE) + ";";
            Check.error(all + again + ";", 2, all.length());
        }
    }

    // ---- ranges

    /** Both ends are allowed, the numbers beside them are not; behind two members. */
    private static void range(String before, int low, int high, String after) {
        String head = "member 0;member 0;" + before;
        fine(head + low + after + ";");
        fine(head + high + after + ";");
        if (low > 0) {
            Check.error(head + (low - 1) + after + ";", 3, head.length());
        }
        if (high < 9999) {
            Check.error(head + (high + 1) + after + ";", 3, head.length());
            Check.error(head + 9999 + after + ";", 3, head.length());
        }
        Check.error(head + 10000 + after + ";", 1, head.length());
        Check.error(head + "-" + low + after + ";", 1, head.length());
    }

    private static void rangesOfThings() {
        range("member ", 0, 9999, "");
        range("version ", 0, 9999, " 1");
        range("version 0 ", 1, 9999, "");
        range("patent ", 0, 1, " 1");
        range("patent 0 ", 1, 9999, "");
        range("licensee ", 0, 100, "");
        Check.error("patent 0 5;", 3, 7);
        Check.error("patent 0 5;member 0;", 3, 7);
        Check.error("member 0;patent 1 5;member 0;", 3, 16);
        fine("member 0;".repeat(8) + "patent 7 5;");
        Check.error("member 0;".repeat(8) + "patent 8 5;", 3, 79);
        PatentPool pool = Check.pool("member 9999;version 9999 1;version 0 1;version 0 9999;licensee 0;licensee 100;"
                + "licensee 99;patent 0 1;patent 0 9999;weight 5;");
        Check.same("the least price", 1, () -> pool.report(0, 1, 1));
        Check.same("the highest price", 9999, () -> pool.report(0, 2, 1));
        Check.same("the highest discount", 0, () -> pool.report(1, 2, 9999));
        Check.same("nearly the highest discount", 99, () -> pool.report(2, 2, 1));
        Check.same("expiry 1", 0, () -> pool.firstToExpire(0));
        pool.advance(9998);
        Check.same("expiry 9999", 1, () -> pool.firstToExpire(0));
        Check.same("before day 9999", 0, () -> pool.weight(0));
        Check.state("a version of day 9999, before", () -> pool.report(0, 0, 1));
        pool.advance(1);
        Check.same("on day 9999", 5, () -> pool.weight(0));
        Check.same("a version of day 9999", 1, () -> pool.report(0, 0, 1));
        Check.same("expiry 9999 on its day", -1, () -> pool.firstToExpire(0));
    }

    private static PatentPool quorum(String statement) {
        return Check.pool("member 0;version 0 1;patent 0 9;" + statement);
    }

    private static void rangeOfQuorum() {
        range("quorum ", 1, 5, " 1");
        range("quorum 1 ", 1, 100, "");
        Check.same("1 vote", 1, () -> quorum("quorum 1 100;").vote(0, 0, 0, true));
        PatentPool most = quorum("quorum 5 100;");
        for (int reviewer = 0; reviewer < 4; reviewer++) {
            int one = reviewer;
            Check.same("fewer than 5 votes", 0, () -> most.vote(one, 0, 0, true));
        }
        Check.same("5 votes", 1, () -> most.vote(4, 0, 0, true));
        PatentPool least = quorum("quorum 1 1;");
        Check.same("0 percent of 1", 2, () -> least.vote(0, 0, 0, false));
        Check.votes(least, 0, 0, 1, 4);
        Check.same("20 percent of 1", 1, () -> least.decision(0, 0));
        PatentPool without = quorum("");
        Check.votes(without, 0, 0, 1, 1);
        Check.same("2 votes without the statement", 0, () -> without.decision(0, 0));
        Check.same("3 votes, 1 yes", 2, () -> without.vote(2, 0, 0, false));
        Check.same("4 votes, 2 yes", 1, () -> without.vote(3, 0, 0, true));
        Check.same("5 votes, 2 yes", 2, () -> without.vote(4, 0, 0, false));
    }

    /** What a close makes of 1000 cents: shared, costs, reserve. */
    private static void parts(String rules, long shared, long costs, long reserve) {
        PatentPool pool = Check.pool("member 0;version 0 10;licensee 0;weight 1;" + rules);
        pool.report(0, 0, 100);
        pool.pay(0, 1000);
        Check.same(rules + " shared", shared, pool::close);
        Check.same(rules + " costs", costs, () -> pool.total(1));
        Check.same(rules + " reserve", reserve, () -> pool.total(2));
    }

    private static void rangesOfParts() {
        range("cap ", 1, 100, "");
        range("costs ", 0, 50, "");
        range("reserve ", 0, 40, "");
        parts("", 850, 100, 50);
        parts("cap 100;", 850, 100, 50);
        parts("cap 99;", 841, 100, 59);
        parts("cap 1;", 8, 100, 892);
        parts("costs 0;", 950, 0, 50);
        parts("costs 50;", 450, 500, 50);
        parts("reserve 0;", 900, 100, 0);
        parts("reserve 40;", 500, 100, 400);
        parts("costs 50;reserve 40;", 100, 500, 400);
        parts("costs 0;reserve 0;", 1000, 0, 0);
    }

    private static void rangeOfLate() {
        range("late ", 0, 9999, " 0");
        range("late 0 ", 0, 100, "");
        Check.same("no days", 7, () -> Check.pool("member 0;late 0 0;weight 7;").weight(0));
        Check.same("0 percent", 0, () -> Check.pool("member 0;late 1 0;weight 7;").weight(0));
        Check.same("100 percent", 7, () -> Check.pool("member 0;late 1 100;weight 7;").weight(0));
        Check.same("without it", 7, () -> Check.pool("member 0;weight 7;").weight(0));
        PatentPool most = Check.pool("member 0;late 9999 0;weight 7;");
        Check.same("day 9998", 0, () -> most.weightAfter(0, 9998));
        Check.same("day 9999", 7, () -> most.weightAfter(0, 9999));
    }

    private static void credit(String rule, int units, Object due) {
        PatentPool pool = Check.pool("version 0 100;licensee 0;" + rule);
        pool.report(0, 0, units);
        Check.same(rule + units + " units", due, () -> pool.grantBack(0));
    }

    private static void rangeOfCredit() {
        range("credit ", 0, 9999, " 0");
        range("credit 0 ", 0, 100, "");
        credit("credit 0 100;", 100, "throws.IllegalStateException");
        credit("credit 1 100;", 100, 1);
        credit("credit 9999 100;", 99, 9900);
        credit("credit 9999 100;", 100, 9999);
        credit("credit 9999 0;", 100, "throws.IllegalStateException");
        credit("credit 9999 1;", 1, 1);
        credit("", 49, 980);
        credit("", 50, 1000);
        credit("", 51, 1000);
    }

    private static void penalty(String rule, int due) {
        PatentPool pool = Check.pool("version 0 100;licensee 0;" + rule);
        Check.same("audit " + rule, due, () -> pool.audit(0, 0, 1));
    }

    private static void rangeOfPenalty() {
        range("penalty ", 0, 400, "");
        penalty("penalty 0;", 100);
        penalty("penalty 1;", 101);
        penalty("penalty 400;", 500);
        penalty("", 150);
    }

    private static void rangeOfWeight() {
        range("weight ", 0, 9999, "");
        range("weight 1+(2*", 0, 9999, ")");
        Check.same("the least number", 0, () -> Check.pool("member 0;weight 0;").weight(0));
        Check.same("the highest number", 9999, () -> Check.pool("member 0;weight 9999;").weight(0));
        PatentPool zero = Check.pool("member 0;version 0 1;patent 0 9;quorum 1 1;weight 0;");
        zero.vote(0, 0, 0, true);
        Check.same("the least number, though a patent counts", 0, () -> zero.weight(0));
        PatentPool pool = Check.pool("member 0;version 0 1;version 0 1;patent 0 9;patent 0 9;quorum 1 1;");
        Check.same("patents: none", 0, () -> pool.weight(0));
        pool.vote(0, 0, 0, true);
        pool.vote(0, 0, 1, true);
        Check.same("patents: one", 1, () -> pool.weight(0));
        pool.vote(0, 1, 0, true);
        Check.same("patents: two", 2, () -> pool.weight(0));
    }

    // ---- parse errors

    private static void code1() {
        Check.error("!", 1, 0);
        Check.error("Member 0;", 1, 0);
        Check.error("memberzzz 0;", 1, 0);
        Check.error("member 00000;", 1, 7);
        Check.error("member 0;;", 1, 9);
        Check.error("member 0 0;", 1, 9);
        Check.error("member member;", 1, 7);
        Check.error("member", 1, 6);
        Check.error("member 0", 1, 8);
        Check.error("weight (((((1)))))+", 1, 19);
    }

    private static void code2() {
        for (String statement : ONCE) {
            String word = statement.substring(0, statement.indexOf(' '));
            String text = "member 0;" + statement + ";\n";
            Check.error(text + word, 2, text.length());
            Check.error(text + word + ";", 2, text.length());
            Check.error(text + word + " 9999 9999 !", 2, text.length());
            Check.error(text + "member 0;" + word, 2, text.length() + 9);
        }
        fine("member 0;member 0;version 0 1;version 0 1;licensee 0;licensee 0;patent 0 1;patent 0 1;");
    }

    private static void code3() {
        Check.error("version 0 0;", 3, 10);
        Check.error("patent 0 1;", 3, 7);
        Check.error("member 0;patent 0 0;", 3, 18);
        Check.error("licensee 101;", 3, 9);
        Check.error("quorum 0 50;", 3, 7);
        Check.error("quorum 6 50;", 3, 7);
        Check.error("quorum 3 0;", 3, 9);
        Check.error("quorum 3 101;", 3, 9);
        Check.error("cap 0;", 3, 4);
        Check.error("cap 101;", 3, 4);
        Check.error("costs 51;", 3, 6);
        Check.error("reserve 41;", 3, 8);
        Check.error("late 0 101;", 3, 7);
        Check.error("credit 0 101;", 3, 9);
        Check.error("penalty 401;", 3, 8);
        Check.error("penalty 0401;", 3, 8);
    }

    private static void code4() {
        String members = "member 0;".repeat(8);
        Check.error(members + "member", 4, 72);
        Check.error(members + "member x", 4, 72);
        Check.error("version 0 1;".repeat(4) + "version", 4, 48);
        String patents = "member 0;" + "patent 0 1;".repeat(16);
        Check.error(patents + "patent", 4, patents.length());
        Check.error(patents + "patent 1 0;", 4, patents.length());
        Check.error("licensee 0;".repeat(6) + " licensee", 4, 67);
        fine("weight (((((1)))));");
        Check.error("weight ((((((1))))));", 4, 12);
        Check.error("weight (((((1+(", 4, 14);
        Check.error("weight (((((1)*((", 4, 16);
        fine("weight (((((1)*(1)))))+(((((1)))));");
        Check.error("weight (((((1)))))+((((((", 4, 24);
    }

    private static void smallestPosition() {
        Check.error("cap 0;!", 3, 4);
        Check.error("!cap 0;", 1, 0);
        Check.error("cap 5;costs 51;cap 5;", 3, 12);
        Check.error("cap 5;cap 5;costs 51;", 2, 6);
        Check.error("weight ((((((1;cap 0;", 4, 12);
        Check.error("quorum 0 0;", 3, 7);
        Check.error("quorum 1 0!", 3, 9);
        Check.error("version 10000 0;", 1, 8);
        Check.error("cap 0", 3, 4);
        Check.error("member 0;".repeat(9) + "!", 4, 72);
    }

    private static void smallestCode() {
        Check.error("weight (((((1(", 1, 13);
        Check.error("weight (((((1((", 1, 13);
        Check.error("cap 5;costs cap", 1, 12);
        Check.error("cap 5;costs 5 cap 5;", 1, 14);
        Check.error("weight 1;cap weight", 1, 13);
        Check.error("member 0;".repeat(8) + "cap member", 1, 76);
        Check.error("licensee 0;".repeat(6) + "cap 5 licensee", 1, 72);
        Check.error("cap 5 500;", 1, 6);
        Check.error("cap 10000;", 1, 4);
        Check.error("quorum 99999 0;", 1, 7);
    }

    private static void positions() {
        Check.error("!", 1, 0);
        Check.error("  !", 1, 2);
        Check.error("\n\ncaps 5;", 1, 2);
        Check.error("cap   0101;", 3, 6);
        Check.error("cap 5;  cap 5;", 2, 8);
        Check.error("weight ( ( ( ( (  (", 4, 18);
        Check.error("cap 12345;", 1, 4);
        Check.error("cap", 1, 3);
        Check.error("cap  ", 1, 5);
        Check.error("cap 5\n \n", 1, 8);
        Check.error("cap" + " ".repeat(697), 1, 700);
        PatentPool pool = new PatentPool();
        Check.put(pool, "cap 5; costs 5;");
        Check.same("a text that its length ends", 1, () -> pool.parse(5));
        Check.same("a text that its length ends: place", 5, pool::errorPosition);
        Check.put(pool, "cap 5; costs 5;");
        pool.parse(4);
        Check.same("a text that ends in a blank: place", 4, pool::errorPosition);
    }
}
