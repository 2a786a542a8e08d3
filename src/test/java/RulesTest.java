/** Part 2 of the document, THE RULES, sentence by sentence, at its edges: each way to come to a FAULT, and its place. */
public final class RulesTest extends Told {
    private static final String EIGHT = "hat fold;coat leave;hat fold;linen fold;field press;copper press;thing press;thing fold;";

    private static void tape() {
        says("n bytes (1 to 8) come to THE TAPE, the lowest of eight first: how many it has. BAD; FULL: more than 200.");
        Counted x = with(3, 0, 0, 0);
        int has = 0;
        for (int n = 1; n <= 8; n++) {
            has += n;
            due(n + " blanks more", x.feed(0x2020202020202020L, n), has);
        }
        due("they are 36", x.many(5), 36);
        refused(BAD, x, ints(0, 9, -1, LOW, HIGH), n -> x.feed(0x2020202020202020L, n));
        // "hat ", then what doesn't come: bytes behind n.
        due("four of eight", x.feed(0x7A7A7A7A20746168L, 4), 40);
        due("\"leave;\", the lowest first", x.feed(0xFFFF3B657661656CL, 6), 46);
        due("a RULE it is", x.rules(), 1);
        due("it tells", x.thingOf(0, 9), 1);
        due("the eighth byte is above 127", x.feed(0xFF20202020202020L, 8), 8);
        due("it can't stand there", x.rules(), -107);

        says("THE TAPE takes bytes, 200 at most; rules() uses it up.");
        Counted y = new Counted();
        for (int i = 1; i <= 24; i++) due("eight more", y.feed(0x2020202020202020L, 8), 8 * i);
        due("193", y.feed(32, 1), 193);
        refused(FULL, y, v -> y.feed(0x2020202020202020L, 8));
        due("BAD goes ahead of FULL", y.feed(0x2020202020202020L, 9), BAD);
        due("200 are not more than 200", y.feed(0x2020202020202020L, 7), 200);
        refused(FULL, y, ints(1, 2, 8), n -> y.feed(0, n));
        due("blanks alone", y.rules(), 0);
        due("used up", y.many(5), 0);
        due("so there is place again", y.feed(32, 1), 1);
        Counted z = new Counted();
        for (int i = 1; i <= 24; i++) z.feed(0x2020202020202020L, 8);
        due("199", z.feed(0x2020202020202020L, 7), 199);
        refused(FULL, z, ints(2, 3, 8), n -> z.feed(0, n));
        due("200", z.feed(0x3B, 1), 200);
        due("the last byte can't stand there", z.rules(), -299);
        due("used up by a refused call, too", z.many(5), 0);
        due("nothing to use up", z.rules(), 0);
    }

    private static void howMany() {
        says("TEXT: { KIND DO ; | KIND if COND DO ; }, 8 RULES at most.");
        told("", 0);
        told(" ", 0);
        told(" ".repeat(200), 0);
        told("thing leave;", 1);
        told("thing if 1=1 leave;", 1);
        told("thing leave;thing if 1=1 leave;", 2);
        told("thing leave;".repeat(7), 7);
        told(EIGHT, 8);
        told(EIGHT + "  ", 8);
        says("KIND: thing | copper | coat | hat | linen | field. DO: press | leave | fold.");
        Counted x = with(1, 0, 0, 0, 2, 0, 0, 0, 3, 0, 0, 0, 4, 0, 0, 0, 5, 0, 0, 0);
        String[] kinds = {"copper", "coat", "hat", "linen", "field"};
        for (int k = 0; k < 5; k++) {
            due("press", rules(x, "thing leave;") + rules(x, kinds[k] + " press; thing leave;"), 3);
            due("press", x.thingOf(k, 9), 0);
            due("leave", rules(x, kinds[k] + " leave;"), 1);
            due("leave", x.thingOf(k, 9), 1);
            due("fold", rules(x, kinds[k] + " fold;"), 1);
            due("fold", x.thingOf(k, 9), 2);
        }
        says("THE TAPE tells THE RULES (in place of all): how many; -100 less its FAULT.");
        due("eight", rules(x, EIGHT), 8);
        due("the sixth tells copper, ahead of the eighth", x.thingOf(0, 9), 0);
        due("the fourth tells a field, ahead of the fifth", x.thingOf(4, 9), 2);
        due("seven for others, the eighth for all", rules(x, "hat leave;".repeat(7) + "thing fold;"), 8);
        due("the eighth tells", x.thingOf(0, 9), 2);
        due("one", rules(x, "hat leave;"), 1);
        due("in place of all eight", x.thingOf(0, 9), 0);
        due("how many", x.many(1), 1);
        due("none", rules(x, ""), 0);
        due("in place of one", x.thingOf(2, 9), 0);
        due("how many", x.many(1), 0);
        rules(x, "hat leave;");
        due("a FAULT", rules(x, "hat fold; x"), -110);
        due("THE RULES stay", x.thingOf(2, 9), 1);
        due("how many", x.many(1), 1);
    }

    private static void told(String text, int answer) {
        due("rules() of '" + text + "'", rules(new Counted(), text), answer);
    }

    /** A text in which ^ stands ahead of the FAULT's place; it is refused, and THE RULES stay. */
    private static void faultAt(String... texts) {
        for (String marked : texts) {
            int place = marked.indexOf('^');
            String text = marked.substring(0, place) + marked.substring(place + 1);
            Counted x = new Counted();
            rules(x, "thing fold;hat fold;");
            feed(x, text);
            due("bytes of THE TAPE", x.many(5), text.length());
            due("rules() of '" + marked + "'", x.rules(), -100 - place);
            due("THE RULES behind it", x.many(1), 2);
            due("THE TAPE behind it", x.many(5), 0);
        }
    }

    private static void faults() {
        says("FAULT: the place (from 0) of the first byte of the first NAME, NUMBER or other byte that can't stand there");
        // Where a RULE begins.
        faultAt("^leave;", "^foo", "^12 leave;", "^;", "^if 1=1 leave;", "^(1=1)", "^wash = 1", "^not", "^and", "^{", "   ^press;", "^<", "^)",
            "thing leave; ^leave;", "thing leave;^;", "thing leave; ^1", "thing leave;^)", "thing leave;  ^if", "thing leave; coat fold; ^wash");
        // Behind a KIND.
        faultAt("thing ^thing leave;", "thing ^hat", "thing ^foo", "thing ^12", "thing ^;", "thing ^wash", "thing ^and", "thing ^or", "thing ^not",
            "thing ^(1=1) leave;", "thing^;", "thing^<", "thing ^iff 1=1 leave;", "thing ^i 1=1 leave;", "thing ^f", "thing ^lea ve;", "thing ^leaves;");
        // Behind if, not, and, or, (.
        for (String ahead : new String[] {"if ", "if not ", "if not not ", "if 1=1 and ", "if 1=1 or ", "if (", "if ((", "if (((", "if (1=1) and ", "if not (not ("}) {
            for (String it : new String[] {"leave;", "thing", "<", "=", ">", ";", ")", "and", "or", "if", "foo = 1 leave;", "numbers = 1", "was = 1"}) faultAt("thing " + ahead + "^" + it);
        }
        // Behind the first VALUE.
        for (String value : new String[] {"1", "9999", "wash", "bulk", "crease", "steam", "number"}) {
            for (String it : new String[] {" leave;", " 2", ")", ";", " and", " or", " not", "(", " if", "! 2", " bulk", " thing"}) faultAt("thing if " + value + it.replaceFirst("\\S", "^$0"));
        }
        // Behind a SIGN.
        for (String sign : new String[] {"<", "=", ">"}) {
            for (String it : new String[] {"leave;", "<", "=", ">", "(", "not", ";", ")", "thing", "and", "or", "if", "-1"}) faultAt("thing if 1" + sign + "^" + it, "thing if wash " + sign + "  ^" + it);
        }
        // Behind a comparison, and behind ")", while none is open.
        for (String ahead : new String[] {"if 1=1", "if not 1=1", "if (1=1)", "if ((1=1))", "if 1=2 and 1=1", "if 1=2 or (((1=1)))"}) {
            for (String it : new String[] {")", ";", " 2", "<", "=", ">", "(", " not", " wash", " thing", " if"}) faultAt("thing " + ahead + it.replaceFirst("\\S", "^$0"));
        }
        // While one is open.
        for (String ahead : new String[] {"if (1=1", "if ((1=1)", "if (((1=1))", "if (1=2 or 1=1", "if not (not 1=1"}) {
            for (String it : new String[] {" leave;", ";", " 2", "<", "(", " not", " wash", " press;", " thing"}) faultAt("thing " + ahead + it.replaceFirst("\\S", "^$0"));
        }
        // Behind a DO.
        for (String rule : new String[] {"thing leave", "thing press", "thing fold", "thing if 1=1 leave"}) {
            for (String it : new String[] {" leave;", " thing", " 1", ",", ")", "(", " if 1=1;", " wash", ":", "="}) faultAt(rule + it.replaceFirst("\\S", "^$0"));
        }
    }

    private static void faultsAtTheEnd() {
        says("or the end (how many bytes there are), if more must come.");
        faultAt("thing^", "thing ^", "thing  ^", "  hat^", "thing leave^", "thing leave   ^", "thing press^", "thing fold^", "thing leave;coat^",
            "thing if^", "thing if ^", "thing if not^", "thing if not not ^", "thing if (^", "thing if ( ^", "thing if (((^", "thing if 1^", "thing if wash^",
            "thing if number ^", "thing if 1<^", "thing if 1= ^", "thing if wash >^", "thing if 1=1^", "thing if 1=1 ^", "thing if 1=1 and^", "thing if 1=1 or ^",
            "thing if (1=1^", "thing if (1=1)^", "thing if ((1=1)^", "thing if 1=1 leave^", "thing if 1=1 fold ^");
        faultAt("thing leave" + " ".repeat(189) + "^");
        faultAt(" ".repeat(195) + "thing^", " ".repeat(196) + "^thin", " ".repeat(199) + "^t", "thing leave; " + " ".repeat(184) + "^cop");
        // What begins like a NAME but is none, is the FAULT itself, though more might have come.
        faultAt("^thin", "^t", "thing ^leav", "thing ^i", "thing if ^was", "thing if ^no", "thing if 1=1 ^an", "thing if 1=1 ^o");
    }

    private static void namesAndNumbers() {
        says("NAMES are rows of letters a to z, NUMBERS rows of digits (1 to 4), both as long as they go");
        faultAt("^thingleave;", "^thingz leave;", "thing ^leavez;", "thing if ^washz=1 leave;", "^zhat leave;", "^things leave;", "^athing leave;", "^thin g leave;", "thing ^leaveleave;", "thing ^ifwash=1 leave;", "thing if ^notwash=1 leave;",
            "thing if ^washwash=1 leave;", "thing if 1=1 ^andwash=1 leave;", "thing if 1=1 ^orwash=1 leave;", "thing if 1 ^2=1 leave;", "thing if 1=1 ^2 leave;",
            "^Thing leave;", "^tHing leave;", "thing ^LEAVE;", "thing ^leavE;", "thing if 1=1 ^anD 2=2 leave;");
        says("(a NUMBER of more digits, the fourth \"(\", the first NAME of the ninth RULE, too)");
        faultAt("thing if ^12345=1 leave;", "thing if ^00000=1 leave;", "thing if 1=^12345 leave;", "thing if 1=^00001 leave;", "thing if (^10000=1) leave;",
            "thing if 1=1 and ^123456=1 leave;", "thing if not ^99999=1 leave;", "thing if bulk < ^1234567890 leave;", "^12345", "thing ^12345", "thing if 1 ^12345",
            "thing if 1=1 ^12345", "thing leave ^12345", "thing if ^12345", "thing if 1=^12345");
        faultAt("thing if (((^(1=1)))) leave;", "thing if (((^((1=1))))) leave;", "thing if not (not (not (not 1=1 and ^(1=1)))) leave;",
            "thing if (1=1 and (1=1 or (1=1 and ^(1=1)))) leave;", "thing if (((1=1) and (^(1=1)))) leave;", "thing if (1=1) or (((^(1=1)))) leave;", "thing if (((^(",
            "hat if (((1=1))) leave; thing if (((^(1=1)))) leave;");
        for (String it : new String[] {"thing leave;", "hat", "leave;", "foo", "if", ";", "12", "12345", "("}) faultAt(EIGHT + "^" + it, EIGHT + "  ^" + it);
        says("At most 3 \"(\" are open within one another.");
        for (String it : new String[] {"(1=1)", "((1=1))", "(((1=1)))", "(((1=1)) and ((1=1)))", "(1=1) and (1=1) and (1=1) and (1=1) and (1=1)", "not (not (not (1=1)))",
            "((1=1) or (1=1) or (1=1) or (1=1))", "(((1=1) or (1=1)) and 1=1) or (((1=1)))"}) told("thing if " + it + " leave;", 1);
        told("thing if (((1=1))) leave;hat if (((1=1))) leave;", 2);
        says("N are NUMBERS 0 to 9999.");
        for (String it : new String[] {"0=0", "9999=9999", "0000=0", "0001=1", "12=0012", "1234=1234", "00=000"}) told("thing if " + it + " leave;", 1);
    }

    private static void blanksAndBytes() {
        says("blanks (32) part them, and stand elsewhere as one likes.");
        told("  thing   leave  ;  ", 1);
        told("thing leave ;hat fold;", 2);
        told("thing if(1=1)leave;", 1);
        told("thing if not(1=1)leave;", 1);
        told("thing if ( ( 1 = 1 ) ) leave ;", 1);
        told("thing if wash<1 and bulk>2 leave;", 1);
        told("thing if 1=wash or(bulk=1)and crease=2 leave;", 1);
        // A NUMBER goes on as long as digits do: a letter behind it begins a NAME, and the other way round.
        told("thing if 1=1leave;", 1);
        told("thing if1=1and2=2or3=3press;", 1);
        told("thing if steam=1and not2=2 press;", 1);
        says("other byte that can't stand there");
        for (int c = 0; c < 256; c++) {
            boolean letter = c >= 'a' && c <= 'z';
            if (c != ' ' && c != ';' && !letter) faultAt("thing leave;^" + (char) c, "thing^" + (char) c + "leave;");
            boolean digit = c >= '0' && c <= '9';
            boolean sign = c >= '<' && c <= '>';
            if (c != ' ' && !sign && !digit) faultAt("thing if 1^" + (char) c + "1 leave;");
        }
    }

    // It goes by in WASH 2, STEAM 1; THING 3 is a coat of BULK 40, CREASE 7.
    private static Counted facts() {
        Counted x = with(1, 1, 1, 1, 1, 1, 1, 1, 1, 1, 1, 1, 2, 40, 7, 0);
        x.iron(0, 0);
        x.iron(1, 0);
        x.iron(2, 4);
        x.wash();
        x.wash();
        x.change(3, 1, 40);
        return x;
    }

    private static void hold(boolean is, String... conditions) {
        for (String c : conditions) {
            Counted x = facts();
            due("rules() by '" + c + "'", rules(x, "thing if " + c + " leave;"), 1);
            due("WILL by '" + c + "'", x.thingOf(3, 9), is ? 1 : 0);
        }
    }

    private static void conditions() {
        says("VALUE: N | wash | bulk | crease | steam | number SIGN: < | = | >", "FACTS: the WASH that goes by; its BULK, its CREASE, the STEAM of that WASH; its number.");
        hold(true, "wash=2", "bulk=40", "crease=7", "steam=1", "number=3", "2=wash", "40=bulk", "7=crease", "1=steam", "3=number", "wash=wash", "bulk>crease", "steam<number", "wash>steam");
        hold(false, "wash=1", "wash=3", "bulk=39", "bulk=41", "crease=6", "crease=8", "steam=0", "steam=2", "number=2", "number=4", "wash=bulk", "crease>bulk", "number<steam", "bulk<bulk", "bulk>bulk");
        hold(true, "bulk<41", "bulk>39", "39<bulk", "41>bulk", "2<3", "3=3", "4>3", "0<1", "1>0", "0=0", "9998<9999", "9999>9998", "9999=9999", "0010=10", "0009<10", "bulk<9999");
        hold(false, "bulk<40", "bulk>40", "40<bulk", "40>bulk", "3<3", "3>3", "3<2", "2>3", "2=3", "1<0", "0>1", "0>0", "0<0", "9999<9998", "9998=9999", "1000=1", "bulk>9999");
        says("COND: ALL { or ALL } ALL: ONE { and ONE } ONE: { not } ( VALUE SIGN VALUE | \"(\" COND \")\" )");
        hold(true, "1=1 or 1=2 and 1=2", "1=2 and 1=2 or 1=1", "1=2 or 1=1 and 1=1", "1=2 or 1=2 or 1=1", "1=1 and 1=1 and 1=1", "1=1 or 1=2 or 1=2", "1=2 or 1=1 or 1=2",
            "not 1=1 or 1=1", "not 1=2 and 1=1", "not not 1=1", "not (1=2)", "not (1=1 and 1=2)", "not (1=2) or 1=2", "not not (1=1)", "not (not (not (1=2)))", "1=1 and not 1=2", "1=2 or not 1=2",
            "(1=2 or 1=1) and 1=1", "1=1 and (1=2 or 1=1)", "((1=2) or (1=1))", "(((1=1)))", "not not not not 1=1", "1=1 or (1=2 and (1=2 or (1=2)))", "not (1=2 or 1=2) and (1=1 or 1=2)");
        hold(false, "(1=1 or 1=2) and 1=2", "1=2 and (1=2 or 1=1)", "1=2 or 1=2 or 1=2", "1=1 and 1=1 and 1=2", "1=2 and 1=1 and 1=1", "1=1 and 1=2 or 1=2", "1=2 and 1=1 or 1=2",
            "not 1=2 and 1=2", "not 1=1 or 1=2", "not not 1=2", "not not not 1=1", "not (1=1)", "not (1=2 or 1=1)", "not (not (not (1=1)))", "(not (not (1=2)))", "1=1 and not 1=1",
            "((1=1) and (1=2))", "not (1=1) and 1=2", "(1=1)and(1=1)and(1=1)and(1=1)and(1=2)", "(1=2)or(1=2)or(1=2)or(1=2)or(1=2)", "not (1=1 or (1=2 and (1=2)))");
        // As long as THE TAPE allows.
        hold(true, "not ".repeat(44) + "1=1", "0=1 or ".repeat(24) + "1=1", "1=1 and ".repeat(21) + "1=1", "0=1" + "or 0=1".repeat(27) + "or 1=1");
        hold(false, "not ".repeat(43) + "1=1", "0=1 or ".repeat(24) + "0=1", "1=1 and ".repeat(21) + "0=1", "1=1" + "and 1=1".repeat(24) + "and 0=1");
    }

    private static void factsOfTheRest() {
        says("FACTS: the WASH that goes by; its BULK, its CREASE, the STEAM of that WASH; its number.");
        Counted x = with(4, 0, 0, 0);
        rules(x, "linen if wash < 3 leave;");
        due("pressed in WASH 3", x.when(0), 3);
        Counted y = with(4, 0, 0, 0);
        rules(y, "linen if steam < 2 leave;");
        irons(y, 0, 4, 4, 7, 8);
        due("pressed in WASH 4, of STEAM 2", y.when(0), 4);
        Counted z = with(2, 8, 0, 0);
        rules(z, "coat if bulk < 20 leave;");
        due("8, 12, 16, 20: it NEEDS 7, PRESS is 8", z.when(0), 3);
        Counted c = with(2, 0, 0, 0);
        rules(c, "coat if crease < 2 fold;");
        due("CREASE 0: folds", tell(c, 1), 0);
        due("CREASE 1: folds", tell(c, 1), 0);
        due("CREASE 2: BULK 4, it NEEDS 6 and is pressed", tell(c, 1), 5);
        Counted n = with(4, 0, 0, 0, 4, 0, 0, 0, 4, 0, 0, 0);
        rules(n, "linen if not number = 2 leave;");
        n.wash();
        due("the third alone", n.state(4), 4);
    }

    public static void main(String[] args) {
        tape();
        howMany();
        faults();
        faultsAtTheEnd();
        namesAndNumbers();
        blanksAndBytes();
        conditions();
        factsOfTheRest();
        done("RulesTest");
    }
}
