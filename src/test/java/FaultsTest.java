/** The FAULTS of texts: each kind, its place, which of several, and texts that just have none. */
public final class FaultsTest {
    private static final int END = 0;
    private static final int STANDS = 0;
    private static final int NUMBER = 1;
    private static final int DEEP = 2;
    private static final int LONG = 3;
    private static final int CLAUSE = 4;

    private final Checks c = new Checks();

    private void book(String text, int place, int kind) {
        c.due("book: " + text, Checks.book(new PoisonBook(), text), Checks.fault(place, kind));
    }

    private void fineBook(String text, int buyers) {
        c.due("book: " + text, Checks.book(new PoisonBook(), text), buyers);
    }

    private void rule(String text, int place, int kind) {
        c.due("rule: " + text, Checks.rule(new PoisonBook(), text), Checks.fault(place, kind));
    }

    private void fineRule(String text) {
        c.due("rule: " + text, Checks.rule(new PoisonBook(), text), 0);
    }

    private void books() {
        book("", 0, END);
        book("   ", 3, END);
        book("book", 4, END);
        book("book  ", 6, END);
        book("book 1 1", 8, END);
        book("books 0 0 1", 0, STANDS);
        book("boo 0 0 1", 0, STANDS);
        book("Book 0 0 1", 0, STANDS);
        book("  7", 2, STANDS);
        book("book x 0 1", 5, STANDS);
        book("book 0 0 1;", 11, END);
        book("book 0 0 1; ", 12, END);
        book("book 0 0 1;;", 11, STANDS);
        book("book 0 0 1 0", 11, STANDS);
        book("book 0 0 1 123456", 11, STANDS);
        book("book 0 0 1 sky 0 0", 11, STANDS);
        book("book 0 0 1x", 10, STANDS);
        book("book 0,0 1", 6, STANDS);
        book("book 0\t0 1", 6, STANDS);
        book("book 0 0 1\0", 10, STANDS);
        book("book 0 0 1;shy 0 0", 11, STANDS);
        book("book 0 0 1;sky 0 -1", 17, STANDS);
        book("book 0 0 " + (char) 233, 9, STANDS);
    }

    private void bookNumbers() {
        book("book 100 0 1", 5, NUMBER);
        book("book 0 10 1", 7, NUMBER);
        book("book 0 0 0", 9, NUMBER);
        book("book 0 0 11", 9, NUMBER);
        book("book 000000 0 1", 5, NUMBER);
        book("book 99999999999999999999 0 1", 5, NUMBER);
        book("book 0 0 1;sky 1 0", 15, NUMBER);
        book("book 0 0 1;sky 0 10", 17, NUMBER);
        book("book 0 0 1;buyer 21 1 0", 17, NUMBER);
        book("book 0 0 1;buyer 0 0 0", 19, NUMBER);
        book("book 0 0 1;buyer 0 10 0", 19, NUMBER);
        book("book 0 0 1;buyer 0 1 10", 21, NUMBER);
        book("book 0 0 1;watch 1 0", 17, NUMBER);
        book("book 0 0 1;watch 0 0", 19, NUMBER);
        book("book 0 0 1;buyer 0 1 0;watch 0 1;buyer 0 1 0", 31, NUMBER);
        fineBook("book 00000 00009 00010;sky 00009 00009", 0);
        fineBook("book 99 9 10;buyer 20 9 9;buyer 0 1 0;watch 9 1", 2);
        fineBook("book0 0 1;sky0 0;buyer0 1 0;watch0 0", 1);
    }

    private void bookClauses() {
        book("sky 0 0", 0, CLAUSE);
        book("  buyer 0 1 0", 2, CLAUSE);
        book("watch x", 0, CLAUSE);
        book("sky 0 0;book 0 0 1", 0, CLAUSE);
        book("book 0 0 1;book 0 0 1", 11, CLAUSE);
        book("book 0 0 1; book", 12, CLAUSE);
        String six = "book 0 0 1" + ";buyer 0 1 0".repeat(6);
        fineBook(six, 6);
        fineBook(six + ";sky 0 1;watch 0 5", 6);
        book(six + ";buyer 0 1 0", six.length() + 1, CLAUSE);
        book(six + "; buyer", six.length() + 2, CLAUSE);
        String forty = "book 0 0 1" + ";sky 0 1".repeat(39);
        fineBook(forty, 0);
        book(forty + ";sky 0 1", forty.length() + 1, CLAUSE);
        book(forty + ";book", forty.length() + 1, CLAUSE);
        book(forty + "; ski", forty.length() + 2, STANDS);
        book(forty + ";", forty.length() + 1, END);
        String full = forty + " ".repeat(400 - forty.length());
        fineBook(full, 0);
        book(full.substring(0, 399) + ";", 400, END);
    }

    private void rules() {
        rule("", 0, END);
        rule("buy", 3, END);
        rule("buy 1 if", 8, END);
        rule("buys 1", 0, STANDS);
        rule("buyz 1", 0, STANDS);
        rule("abuy 1", 0, STANDS);
        rule("buy{1", 3, STANDS);
        rule("buy`1", 3, STANDS);
        rule("buy 1:2", 5, STANDS);
        rule("buy x", 4, STANDS);
        rule("buy 1;", 6, END);
        rule("buy 1;buz 1", 6, STANDS);
        rule("buy 1 if met = 1]", 16, STANDS);
        rule("buy 5 %", 7, END);
        rule("buy 1 if [met = 1", 17, END);
        rule("buy 1 if [met = 1;", 17, STANDS);
        rule("buy 1 if met", 12, END);
        rule("buy 1 if met = ", 15, END);
        rule("buy 1 if met = 1 = 1", 17, STANDS);
        rule("buy 1 if met == 1", 14, STANDS);
        rule("buy 1 if met > = 1", 15, STANDS);
        rule("buy 1 if met => 1", 14, STANDS);
        rule("buy 1 if [met] = 1", 13, STANDS);
        rule("buy [1]", 4, STANDS);
        rule("buy not 1", 4, STANDS);
        rule("buy 1 if not", 12, END);
        rule("buy 1 if 1 = not 1", 13, STANDS);
        rule("buy 1 if 1 = 1 and", 18, END);
        rule("buy 1 if 1 = 1 or or", 18, STANDS);
        rule("buy 1 if 1 = 1 nor 1 = 1", 15, STANDS);
        rule("buy 1 if 1 = 1 if", 15, STANDS);
        rule("buy 1 if [1 = 1] + 1", 17, STANDS);
        rule("buy 1 + + 1", 8, STANDS);
        rule("buy -1", 4, STANDS);
        rule("buy 1 1", 6, STANDS);
        rule("buy if", 4, STANDS);
        rule("buy buy", 4, STANDS);
        rule("buy 1 & 1", 6, STANDS);
        rule("buy 1 < 2", 6, STANDS);
        rule("buy tempers", 4, STANDS);
        rule("buy tempe", 4, STANDS);
        rule("buy temperif 1 = 1", 4, STANDS);
        rule("buy 1 iff 1 = 1", 6, STANDS);
        rule("buy 123456", 4, NUMBER);
        rule("buy 1 + 000000", 8, NUMBER);
        rule("buy 1 123456", 6, STANDS);
        fineRule("buy 99999 + 00000");
        fineRule("buy1if1=1and2>=1or[not[3<=4]]");
        fineRule("  buy buyer+temper-grains*waits/still%next if shelf<bought or met>since and sold<=clock or day>=1  ");
    }

    private void depths() {
        String ten = "[".repeat(10) + "1=1" + "]".repeat(10);
        fineRule("buy 1 if " + ten);
        fineRule("buy 1 if " + ten + " and " + ten + "or" + ten);
        rule("buy 1 if [" + ten + "]", 19, DEEP);
        fineRule("buy 1 if " + "not ".repeat(10) + "1=1");
        rule("buy 1 if " + "not ".repeat(11) + "1=1", 49, DEEP);
        rule("buy 1 if " + "not ".repeat(10) + "[1=1]", 49, DEEP);
        rule("buy 1 if " + "not[".repeat(5) + "1=1" + "]".repeat(4) + " and not 1=1]and[1=1", 56, END);
        rule("buy 1 if " + "not[".repeat(5) + "not 1=1", 29, DEEP);
        rule("buy 1 if " + "[".repeat(10) + "nor", 19, STANDS);
        fineRule("buy 1 if " + "not 1=1 and ".repeat(12) + "not 1=1");
    }

    private void lengths() {
        String sixty = "buy 1" + "+1".repeat(59);
        fineRule(sixty);
        rule(sixty + "+1", sixty.length() + 1, LONG);
        rule(sixty + "+ day", sixty.length() + 2, LONG);
        rule(sixty + "+day;", sixty.length() + 1, LONG);
        rule(sixty + "+123456", sixty.length() + 1, NUMBER);
        rule(sixty + "+days", sixty.length() + 1, STANDS);
        rule(sixty + "+", sixty.length() + 1, END);
        rule(sixty + ";buy 1", sixty.length() + 5, LONG);
        String fifty = "buy 1" + "+1".repeat(56);
        fineRule(fifty + " if 1=1");
        rule(fifty + "+1 if 1=1", fifty.length() + 8, LONG);
        rule(fifty + "+1+1 if 1= 1", fifty.length() + 9, LONG);
        rule(fifty + "+1+1 if 1 ", fifty.length() + 10, END);
        rule(fifty + "+1+1+1 if 1=1", fifty.length() + 10, LONG);
        rule(fifty + " if 1=1 and 1=1", fifty.length() + 12, LONG);
        fineRule(fifty + " if not[[1=1]]");
    }

    private void ruleClauses() {
        String twelve = "buy 1" + ";buy 1".repeat(11);
        fineRule(twelve);
        rule(twelve + ";buy 1", twelve.length() + 1, CLAUSE);
        rule(twelve + "; buy", twelve.length() + 2, CLAUSE);
        rule(twelve + ";bye", twelve.length() + 1, STANDS);
        rule(twelve + ";", twelve.length() + 1, END);
        rule("buy 1 if 1 = 1;if", 15, STANDS);
    }

    /** What a SUM comes to: bought if it is the told one. */
    private void sum(String sum, String comesTo) {
        PoisonBook x = Checks.told("book 50 0 3;sky 0 3;sky 1 8;buyer 11 4 2;buyer 7 5 1");
        Checks.rule(x, "buy 1 if " + sum + " = " + comesTo + " and buyer = 0");
        c.due("a RULE for " + sum, x.force(0), PoisonBook.NONE);
        c.due(sum + " = " + comesTo, x.day(), 1);
    }

    private void sums() {
        sum("1 + 2 * 3", "7");
        sum("10 - 4 - 3", "3");
        sum("2 * 3 + 4 * 5 - 6 / 2", "23");
        sum("100 / 7 / 2", "7");
        sum("100 % 7 * 3", "6");
        sum("7 - 3 * 2 % 4 - 1", "4");
        sum("5 / 0 + 5 % 0", "0");
        sum("0 - 7 / 2", "0 - 3");
        sum("buyer + 0", "0");
        sum("temper", "11");
        sum("grains", "4");
        sum("waits", "2");
        sum("still", "3");
        sum("next", "8");
        sum("shelf", "50");
        sum("bought + met + sold + clock + day", "0");
        sum("since", "99");
        sum("00012", "12");
    }

    private void fact(String test, boolean holds) {
        PoisonBook x = Checks.told("book 50 0 1;buyer 11 4 2");
        Checks.rule(x, "buy 1 if " + test);
        c.due("a RULE for " + test, x.force(0), PoisonBook.NONE);
        c.due(test, x.day(), holds ? 1 : 0);
    }

    private void facts() {
        fact("1 < 2", true);
        fact("2 < 2", false);
        fact("2 <= 2", true);
        fact("3 <= 2", false);
        fact("2 = 2", true);
        fact("2 = 3", false);
        fact("2 >= 2", true);
        fact("1 >= 2", false);
        fact("3 > 2", true);
        fact("2 > 2", false);
        fact("0 - 7 % 4 < 0 - 2", true);
        fact("1 = 1 or 1 = 2 and 1 = 2", true);
        fact("[1 = 1 or 1 = 2] and 1 = 2", false);
        fact("1 = 2 and 1 = 1 or 1 = 1", true);
        fact("1 = 2 or 1 = 2 or 1 = 1", true);
        fact("1 = 1 and 1 = 1 and 1 = 2", false);
        fact("not 1 = 2 and 1 = 1", true);
        fact("not 1 = 1 or 1 = 1", true);
        fact("not [1 = 1 or 1 = 1]", false);
        fact("not not 1 = 1", true);
        fact("99999 * 99999 * 99999 * 9300 < 0", true);
        fact("99999 * 99999 * 99999 * 9000 > 0", true);
        fact("0 - 99999 * 99999 * 99999 * 9223 - 99999 * 99999 * 99999 * 300 > 0", true);
    }

    public static void main(String[] args) {
        FaultsTest t = new FaultsTest();
        t.books();
        t.bookNumbers();
        t.bookClauses();
        t.rules();
        t.depths();
        t.lengths();
        t.ruleClauses();
        t.sums();
        t.facts();
        t.c.close("FaultsTest");
    }
}
