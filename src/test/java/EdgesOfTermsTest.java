/** The boundary cases that the document's 'Terms' name, a test for each. */
public final class EdgesOfTermsTest {
    private static final int BAD = JoinKeeper.BAD;
    private static final int LARGE = JoinKeeper.LARGE;
    private static final String[] CHAINS = {"R", "S", "T", "RS", "ST", "RST"};
    private static final String[] COLUMNS = {"AB", "BC", "CD", "ABC", "BCD", "ABCD"};

    public static void main(String[] args) {
        Edges texts = new Edges("terms, texts");
        texts.test("a CHAIN is R, S, T, RS, ST or RST: no other", EdgesOfTermsTest::chains);
        texts.test("at most 30 signs", EdgesOfTermsTest::mostSigns);
        texts.test("no spaces", EdgesOfTermsTest::noSpaces);
        texts.test("the CHAIN's letters, ':' and an expression: none may lack", EdgesOfTermsTest::partsThatMustBe);
        texts.test("then maybe conditions: none, one, as many as there is room for", EdgesOfTermsTest::manyConditions);
        texts.test("then maybe '/' and a column: at most one, at the end", EdgesOfTermsTest::oneGroup);
        texts.test("terms with '+' or '-' between: none may lack", EdgesOfTermsTest::noTerm);
        texts.test("factors with '*' between: none may lack", EdgesOfTermsTest::noFactor);
        texts.test("a factor: a digit, one alone", EdgesOfTermsTest::oneDigit);
        texts.test("a factor: a column letter, one alone", EdgesOfTermsTest::oneLetter);
        texts.test("'(' expression ')': empty, open, closed too often", EdgesOfTermsTest::brackets);
        texts.test("'-' and a factor: not alone", EdgesOfTermsTest::negatives);
        texts.test("a condition: none of its parts may lack or come twice", EdgesOfTermsTest::brokenConditions);
        texts.test("every column letter is a column of the CHAIN", EdgesOfTermsTest::columnsOfTheChain);

        Edges open = new Edges("terms, open signs");
        open.test("at most 8 of '(' and '-': 8 can stand", EdgesOfTermsTest::eightOpen);
        open.test("at most 8 of '(' and '-': a ninth can't", EdgesOfTermsTest::nineOpen);
        open.test("a '-' between terms is not open", EdgesOfTermsTest::minusBetweenTerms);
        open.test("a '-' is open till its factor ends", EdgesOfTermsTest::minusEndsWithItsFactor);
        open.test("a '(' is open till its ')'", EdgesOfTermsTest::bracketEndsWithItsOther);

        Edges stand = new Edges("terms, a sign can stand");
        stand.test("texts of any length", EdgesOfTermsTest::standsInLongerTexts);
        stand.test("with columns of the CHAIN as read so far", EdgesOfTermsTest::chainAsReadSoFar);
        stand.test("S can stand behind R, T behind S, and after the CHAIN only ':'", EdgesOfTermsTest::behindTheChain);

        Edges terms = new Edges("terms, the polynomial");
        terms.test("coefficients other than 0: no TERMS at all", EdgesOfTermsTest::noTerms);
        terms.test("each combination of powers once", EdgesOfTermsTest::eachCombinationOnce);
        terms.test("1, the combination without a power, too", EdgesOfTermsTest::combinationWithoutPower);
        terms.test("powers are not mixed up", EdgesOfTermsTest::powersApart);

        Edges large = new Edges("terms, LARGE");
        large.test("a power above 2 of a column: 2 is not", EdgesOfTermsTest::powerTwo);
        large.test("a power above 2 of a column: 3 is", EdgesOfTermsTest::powerThree);
        large.test("a power of a column, not of all together", EdgesOfTermsTest::powersOfManyColumns);
        large.test("a coefficient above 1000: 1000 is not", EdgesOfTermsTest::coefficientThousand);
        large.test("a coefficient above 1000: 1001 is", EdgesOfTermsTest::coefficientAboveThousand);
        large.test("a coefficient below -1000: -1000 is not", EdgesOfTermsTest::coefficientMinusThousand);
        large.test("a coefficient below -1000: -1001 is", EdgesOfTermsTest::coefficientBelowMinusThousand);
        large.test("coefficients that would wrap an int around", EdgesOfTermsTest::coefficientsThatWrap);
        large.test("more than 12 TERMS: 12 are not", EdgesOfTermsTest::twelveTerms);
        large.test("more than 12 TERMS: 13 are", EdgesOfTermsTest::thirteenTerms);
        large.test("the polynomial of a factor in it", EdgesOfTermsTest::largeFactor);
        large.test("of a term as far as one of its factors", EdgesOfTermsTest::largeBeginOfTerm);
        large.test("of an expression as far as one of its terms", EdgesOfTermsTest::largeBeginOfExpression);
        large.test("not a part that is none of these", EdgesOfTermsTest::largeElsewhere);
        large.test("a power or coefficient that is gone by 0 is none", EdgesOfTermsTest::goneByZero);
        Edges.end(texts, open, stand, terms, large);
    }

    private static void allDefine(Check check, int want, String... texts) {
        for (String text : texts) {
            check.holds(text + " has room", text.length() <= 30);
            check.dueDefine(text, want);
        }
    }

    private static void allWhole(Check check, String... texts) {
        for (String text : texts) {
            check.holds(text + " has room", text.length() <= 30);
            check.dueFault(text, -2);
        }
    }

    private static void allFaultAtLast(Check check, String... texts) {
        for (String text : texts) {
            check.holds(text + " has room", text.length() <= 30);
            check.dueFaultAtLast(text);
        }
    }

    private static void allBeginnings(Check check, String... texts) {
        for (String text : texts) {
            check.holds(text + " has room", text.length() <= 30);
            check.dueFault(text, text.length());
        }
    }

    private static void chains(Check check) {
        for (String chain : CHAINS) {
            allDefine(check, 1, chain + ":1");
        }
        allDefine(check, BAD, ":1", "RT:1", "SR:1", "TS:1", "TR:1", "RR:1", "SS:1", "TT:1", "RTS:1", "SRT:1", "STR:1",
            "RSS:1", "RSR:1", "RSTR:1", "RSTT:1", "U:1", "Q:1", "r:1", "A:1");
    }

    private static void mostSigns(Check check) {
        String full = "RS:1?A=0?A#1?A<2?A>3?B=4?C#9/A";
        JoinKeeper keeper = Check.with(full);
        check.due("signs", keeper.state(0), 30);
        check.due("define(0)", keeper.define(0), 1);
        check.due("conditions", keeper.question(0, 4), 6);
        check.due("the column behind '/'", keeper.question(0, 3), 0);
        check.due("a 31st sign", keeper.sign('+'), -1);
        check.due("define(0)", keeper.define(0), 1);
    }

    private static void noSpaces(Check check) {
        JoinKeeper keeper = Check.with("R: A + 1");
        check.due("the signs that are none are left out", keeper.state(0), 5);
        check.due("define(0)", keeper.define(0), 2);
    }

    private static void partsThatMustBe(Check check) {
        allDefine(check, BAD, "", "R", "RST", "R:", "RST:", ":", ":1", "1", "A", "R1", "RA", "R?A=1", "R:?A=1", "R:/A", "R/A");
    }

    private static void manyConditions(Check check) {
        String text = "R:1";
        for (int conditions = 0; conditions <= 6; conditions++) {
            JoinKeeper keeper = Check.with(text);
            check.due("define(0) of " + text, keeper.define(0), 1);
            check.due("conditions of " + text, keeper.question(0, 4), conditions);
            text += "?B#" + conditions;
        }
    }

    private static void oneGroup(Check check) {
        for (int chain = 0; chain < CHAINS.length; chain++) {
            JoinKeeper none = Check.with(CHAINS[chain] + ":1");
            none.define(0);
            check.due("no column behind '/'", none.question(0, 3), -2);
            for (char column : COLUMNS[chain].toCharArray()) {
                JoinKeeper keeper = Check.with(CHAINS[chain] + ":1/" + column);
                keeper.define(0);
                check.due("/" + column, keeper.question(0, 3), column - 'A');
            }
        }
        allDefine(check, BAD, "R:1/", "R:1/AB", "R:1/A/B", "R:1/A/", "R:1//A", "R:1/1", "R:1/A?B=1", "R:1/(A)", "R:/A");
    }

    private static void noTerm(Check check) {
        allFaultAtLast(check, "R:+", "R:1++", "R:1-+", "R:1+?", "R:1+/", "R:(+", "R:(1+)", "R:1+)");
        allBeginnings(check, "R:1+", "R:1-", "R:1+1-");
        allWhole(check, "R:1+1", "R:1-1", "R:1--1", "R:1+-1", "R:-1-1");
    }

    private static void noFactor(Check check) {
        allFaultAtLast(check, "R:*", "R:1**", "R:1*+", "R:1*?", "R:1*/", "R:(*", "R:(1*)", "R:-*", "R:1+*", "R:A(", "R:(1)(");
        allBeginnings(check, "R:1*", "R:1*2*", "R:1*-");
        allWhole(check, "R:1*1", "R:1*-1", "R:1*A", "R:(1)*(1)");
    }

    private static void oneDigit(Check check) {
        for (char digit = '0'; digit <= '9'; digit++) {
            allDefine(check, digit == '0' ? 0 : 1, "R:" + digit);
        }
        allFaultAtLast(check, "R:12", "R:00", "R:1A", "R:(1)1", "R:/", "R::");
    }

    private static void oneLetter(Check check) {
        allDefine(check, 1, "RST:A", "RST:B", "RST:C", "RST:D");
        allFaultAtLast(check, "RST:AA", "RST:AB", "RST:A1", "RST:E", "RST:@", "RST:a", "RST:R", "RST:(A)B");
    }

    private static void brackets(Check check) {
        allFaultAtLast(check, "R:)", "R:()", "R:(()", "R:1)", "R:(1))", "R:(1?", "R:(1/", "R:(1(", "R:1(", "R:-)");
        allBeginnings(check, "R:(", "R:((", "R:(1", "R:((1)", "R:(1+(1)");
        allWhole(check, "R:(1)", "R:((1))", "R:(1)+(1)", "R:(1+1)*(A)");
    }

    private static void negatives(Check check) {
        allBeginnings(check, "R:-", "R:--", "R:1*-", "R:(-", "R:1--");
        allFaultAtLast(check, "R:-+", "R:-*", "R:-?", "R:-/", "R:(-)", "R:--)");
        allWhole(check, "R:-1", "R:--1", "R:-A", "R:-(1)", "R:1---1", "R:2*-3");
    }

    private static void brokenConditions(Check check) {
        allFaultAtLast(check, "R:1??", "R:1?=", "R:1?1", "R:1?AB", "R:1?A1", "R:1?A?", "R:1?A!", "R:1?A==", "R:1?A<=", "R:1?A=B",
            "R:1?A=?", "R:1?A=/", "R:1?A=-", "R:1?A=11", "R:1?A=1+", "R:1?A=1*", "R:1?A=1)", "R:1?A=1A", "R:1?A=1=", "R:1?A=:");
        allBeginnings(check, "R:1?", "R:1?A", "R:1?A=", "R:1?A=1?", "R:1?A=1?B", "R:1?A=1?B>", "R:1?A=1/");
        for (char digit = '0'; digit <= '9'; digit++) {
            allWhole(check, "R:1?A=" + digit, "R:1?A#" + digit, "R:1?A<" + digit, "R:1?A>" + digit);
        }
    }

    private static void columnsOfTheChain(Check check) {
        for (int chain = 0; chain < CHAINS.length; chain++) {
            for (char letter = 'A'; letter <= 'D'; letter++) {
                boolean has = COLUMNS[chain].indexOf(letter) >= 0;
                allDefine(check, has ? 1 : BAD, CHAINS[chain] + ":" + letter, CHAINS[chain] + ":-(" + letter + ")",
                    CHAINS[chain] + ":1?" + letter + "=1", CHAINS[chain] + ":1/" + letter);
            }
        }
    }

    private static void eightOpen(Check check) {
        allWhole(check, "R:--------1", "R:((((((((1))))))))", "R:-(-(-(-(1))))", "R:(-(-(-(-1))))", "R:((((----1))))",
            "R:----((((1))))");
        allDefine(check, 1, "R:--------A", "R:((((((((A))))))))");
    }

    private static void nineOpen(Check check) {
        allFaultAtLast(check, "R:---------", "R:--------(", "R:(((((((((", "R:((((((((-", "R:-(-(-(-(-", "R:(-(-(-(-(",
            "R:((((((((1+-", "R:((((((((1*(", "R:((((((((1--", "R:1+---------", "R:1*(((((((((", "R:1----------");
        allDefine(check, BAD, "R:---------1", "R:(((((((((1)))))))))", "R:--------(1)");
    }

    private static void minusBetweenTerms(Check check) {
        allWhole(check, "R:1--------1", "R:1---------1", "R:((((((((1-1))))))))", "R:1-1-1-1-1-1-1-1-1-1-1",
            "R:1-((((((((1))))))))");
        allFaultAtLast(check, "R:((((((((1--");
    }

    private static void minusEndsWithItsFactor(Check check) {
        allWhole(check, "R:--------1*--------1", "R:--------1---------1", "R:-1*-1*-1*-1*-1*-1*-1*-1*-1",
            "R:-(1)*-(1)*-(1)*-(1)*-(1)", "R:-------(1)*--------1", "R:(-------1*-------1)", "R:-(-----(1)*------1)");
        allFaultAtLast(check, "R:--------1*---------", "R:(-------1*--------", "R:-(-----(1)*-------", "R:-------(1*-");
    }

    private static void bracketEndsWithItsOther(Check check) {
        allWhole(check, "R:((((((((1)*(1))))))))", "R:((((1))))*((((1))))",
            "R:(((1)))-(((((1)))))");
        allFaultAtLast(check, "R:((((((((1)*((", "R:((((((((1)*(-", "R:((((((((1))*(((");
    }

    private static void standsInLongerTexts(Check check) {
        allBeginnings(check, "R:1+2+3+4+5+6+7+8+9+8+((((((((", "RS:1+2+3+4+5+6+7+8+9+8+-------", "RST:1+2+3+4+5+6+7+8+9+8+7+6+5?",
            "R:((((((((1+1+1+1+1+1+1+1+1+1+");
        allFaultAtLast(check, "R:1+2+3+4+5+6+7+8+9+(((((((((", "R:1+2+3+4+5+6+7+8+9+8+7+6+5+4)");
    }

    private static void chainAsReadSoFar(Check check) {
        allFaultAtLast(check, "R:C", "R:D", "S:A", "S:D", "T:A", "T:B", "RS:D", "ST:A", "R:1?C", "RS:1?D", "ST:1/A", "T:1/B");
        allWhole(check, "RS:C", "RST:D", "ST:D", "RST:A");
    }

    private static void behindTheChain(Check check) {
        for (String chain : CHAINS) {
            for (char sign = 33; sign <= 126; sign++) {
                boolean longer = sign == 'S' && chain.endsWith("R") || sign == 'T' && chain.endsWith("S");
                boolean can = sign == ':' || longer;
                check.dueFault(chain + sign, can ? chain.length() + 1 : chain.length());
            }
        }
        allFaultAtLast(check, "R:S", "R:1S", "R::", "RST::");
    }

    private static void noTerms(Check check) {
        allDefine(check, 0, "R:0", "R:-0", "R:(0)", "R:0*9", "R:A-A", "R:A*0", "R:0*A", "R:1-1", "R:A*B-B*A", "R:(A-A)*(B+1)",
            "R:-A+A");
    }

    private static void eachCombinationOnce(Check check) {
        allDefine(check, 1, "R:A+A", "R:A*B+B*A", "R:1+2+3", "R:A*2+A*3", "R:A*A+A*A");
        allDefine(check, 2, "R:A+B+A+B", "R:A+A*A+A", "R:(A+B)*(A-B)");
        allDefine(check, 3, "R:(A+B)*(A+B)");
    }

    private static void combinationWithoutPower(Check check) {
        allDefine(check, 1, "R:7", "R:-7", "R:3*3", "R:A+5-A");
        allDefine(check, 2, "R:A+1", "R:1-A");
        allDefine(check, 4, "R:(A+1)*(B+1)");
    }

    /** All nine combinations of two columns, with coefficients that tell them apart. */
    private static void powersApart(Check check) {
        allDefine(check, 9, "R:(A*A+A+1)*(B*B+B+1)", "T:(C*C+C+1)*(D*D+D+1)", "RST:(A*A+A+1)*(D*D+D+1)");
        allDefine(check, 4, "RST:A+B+C+D", "RST:A*A+B*B+C*C+D*D");
        allDefine(check, 6, "RST:A*B+A*C+A*D+B*C+B*D+C*D");
    }

    private static void powerTwo(Check check) {
        allDefine(check, 1, "R:A*A", "R:B*B", "T:C*C", "T:D*D", "R:A*B*A", "R:-A*-A");
        allDefine(check, 3, "R:(A+1)*(A+1)");
    }

    private static void powerThree(Check check) {
        allDefine(check, LARGE, "R:A*A*A", "R:B*B*B", "T:C*C*C", "T:D*D*D", "R:A*B*A*B*A", "R:A*(A*A)", "R:(A*A+1)*(A+1)",
            "R:-A*-A*-A", "R:A*A*A*A", "R:A*A*(A*A)", "R:A*A*(A*A)*(A*A)", "R:1+A*A*A", "RST:D*D*(D-C)");
    }

    private static void powersOfManyColumns(Check check) {
        allDefine(check, 1, "RST:A*B*C*D", "RST:A*A*B*B*C*C*D*D", "R:A*A*B*B");
        allDefine(check, 2, "R:A*A*B*B+A*A*B");
    }

    private static void coefficientThousand(Check check) {
        allDefine(check, 1, "R:8*5*5*5", "R:8*5*5*5*A", "R:(8*5*5*5)", "R:9*9*9+9*9*3+9*3+1", "R:--(8*5*5*5)*B");
        allDefine(check, 2, "R:8*5*5*5*A-8*5*5*5");
    }

    private static void coefficientAboveThousand(Check check) {
        allDefine(check, LARGE, "R:8*5*5*5+1", "R:7*(9*8*2-1)", "R:7*A*(9*8*2-1)", "R:B*B*8*5*5*5+B*B", "R:9*9*9+9*9*3+9*3+2",
            "R:8*5*5*5*A+A", "R:9*9*9*9");
    }

    private static void coefficientMinusThousand(Check check) {
        allDefine(check, 1, "R:-8*5*5*5", "R:8*5*5*-5*A", "R:-(8*5*5*5)", "R:-9*9*9-9*9*3-9*3-1", "R:0-8*5*5*5");
        allDefine(check, 2, "R:A-8*5*5*5");
    }

    private static void coefficientBelowMinusThousand(Check check) {
        allDefine(check, LARGE, "R:-8*5*5*5-1", "R:-7*(9*8*2-1)", "R:7*A*-(9*8*2-1)", "R:B*B-B*B*2-B*B*8*5*5*5",
            "R:-9*9*9-9*9*3-9*3-2", "R:-9*9*9*9");
    }

    /** 9 to the 13th is 2541865828329; 8 to the 12th, 2 to the 36th, wraps an int to 0. */
    private static void coefficientsThatWrap(Check check) {
        allDefine(check, LARGE, "R:9*9*9*9*9*9*9*9*9*9*9*9*9", "R:8*8*8*8*8*8*8*8*8*8*8*8", "R:(8*5*5*5)*(8*5*5*5)");
    }

    private static void twelveTerms(Check check) {
        allDefine(check, 12, "RS:(A*A+A+1)*(B+1)*(C+1)", "RST:(A*A+A+1)*(B+1)*(C+1)-1+D", "RST:(A+B+C+D)*(A+B+1)+1");
        allDefine(check, 9, "R:(A*A+A+1)*(B*B+B+1)");
    }

    private static void thirteenTerms(Check check) {
        allDefine(check, LARGE, "RST:(A*A+A+1)*(B+1)*(C+1)+D", "RST:(A+1)*(B+1)*(C+1)*(D+1)", "RST:D+(A*A+A+1)*(B+1)*(C+1)",
            "RST:(A+B+C+D)*(A+B+1)+1+C*D", "RS:(A*A+A+1)*(B*B+B+1)*(C+1)");
    }

    private static void largeFactor(Check check) {
        allDefine(check, LARGE, "R:0*(9*9*9*9)", "R:0*-(A*A*A)", "R:0*(8*5*5*5+1)", "R:0*((9*9*9*9))", "R:0*-----(B*B*B)",
            "RST:0*((A+B+C+D)*(A+B+C+D+1))");
    }

    private static void largeBeginOfTerm(Check check) {
        allDefine(check, LARGE, "R:A*A*A*0", "R:9*9*9*9*0", "R:8*5*5*5*2*0", "R:(1-9*9*9*9*0)", "RST:(A+1)*(B+1)*(C+1)*(D+1)*0");
    }

    private static void largeBeginOfExpression(Check check) {
        allDefine(check, LARGE, "R:8*5*5*5+1-1", "R:-8*5*5*5-1+1", "R:9*9*9+9*9*9-9*9*9", "R:0*(8*5*5*5+1-1)",
            "RST:(A*A+A+1)*(B+1)*(C+1)+D-D", "RST:D+(A*A+A+1)*(B+1)*(C+1)-D");
    }

    /** Only beginnings count: a later part of a sum or product that would be large by itself does not. */
    private static void largeElsewhere(Check check) {
        allDefine(check, 1, "R:-1+8*5*5*5+1", "R:9*9*9-9*9*9+9*9*9");
        allDefine(check, 0, "R:0*9*9*9*9", "R:-8*5*5*5+8*5*5*5");
        allDefine(check, 12, "RST:(A*A+A+1)*(B+1)*(C+1)-1+D");
    }

    private static void goneByZero(Check check) {
        allDefine(check, 0, "R:0*A*A*A", "R:(A-A)*A*A*A", "R:0*8*5*5*5*9", "RST:0*(A+1)*(B+1)*(C+1)*(D+1)", "R:A*0*A*A");
        allDefine(check, 1, "R:A*A*0*A+1", "R:(A*A-A*A+1)*A", "R:(A*A-A*A+B)*A*A");
    }
}
