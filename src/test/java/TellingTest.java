/** Promises 1 to 7 and 30: a new object, what is told to it, and the texts that it takes or finds fault with. */
public final class TellingTest {
    public static void main(String[] args) {
        newObject();
        strength();
        reserve();
        feed();
        order();
        lexicon();
        lexiconFaults();
        lexiconDissolves();
        law();
        lawFaults();
        lawValues();
        lawRefused();
        seed();
        Due.end();
    }

    private static void newObject() {
        WordWar war = new WordWar();
        Due.is("1: NONE", WordWar.NONE, -1);
        for (int what = 0; what < 20; what++) {
            boolean open = what < 6 || what >= 10;
            Due.is("1: count(" + what + ")", war.count(what), !open ? -1 : what == 3 ? 1 : 0);
        }
        for (int i = 0; i < 24; i++) {
            Due.is("1: reserve", war.count(100 + i), 0);
            Due.is("1: grave", war.count(130 + i), 0);
            Due.is("1: prisoners", war.count(160 + i), 0);
            Due.is("1: order", war.count(190 + i), i % 12);
        }
        for (int letter = 0; letter < 12; letter++) {
            Due.is("1: strength", war.count(220 + letter), 1);
        }
        Due.is("1: nothing is kept", war.undo(), false);
        Due.is("1: all orders", war.learnt(-1), 479001600L);
    }

    private static void strength() {
        WordWar war = new WordWar();
        Due.is("2: 0", war.strength(0, 0), true);
        Due.is("2: 99", war.strength(11, 99), true);
        Due.is("2: 100", war.strength(0, 100), false);
        Due.is("2: -1", war.strength(0, -1), false);
        Due.is("2: letter -1", war.strength(-1, 5), false);
        Due.is("2: letter 12", war.strength(12, 5), false);
        Due.is("2: a", war.count(220), 0);
        Due.is("2: l", war.count(231), 99);
    }

    private static void reserve() {
        WordWar war = new WordWar();
        Due.is("3: 999", war.reserve(0, 0, 999), true);
        Due.is("3: 7 of l", war.reserve(1, 11, 7), true);
        Due.is("3: 1000", war.reserve(0, 0, 1000), false);
        Due.is("3: -1", war.reserve(0, 0, -1), false);
        Due.is("3: side 2", war.reserve(2, 0, 1), false);
        Due.is("3: side -1", war.reserve(-1, 0, 1), false);
        Due.is("3: letter 12", war.reserve(0, 12, 1), false);
        Due.is("3: letter -1", war.reserve(0, -1, 1), false);
        Due.is("3: side 0", war.count(14), 999);
        Due.is("3: side 1", war.count(15), 7);
        Due.is("3: of l", war.count(123), 7);
        Due.is("3: 0", war.reserve(0, 0, 0), true);
        Due.is("3: none", war.count(100), 0);
    }

    private static void feed() {
        WordWar war = new WordWar();
        for (int i = 1; i <= 11; i++) {
            Due.is("4: feed", war.feed(0x61626364, 0x65666768, -1, 0, 1), 20 * i);
        }
        Due.is("4: no more than 220", war.feed(0, 0, 0, 0, 0), -1);
        Due.is("4: it stays", war.count(2), 220);
        Due.is("4: the highest byte first", war.lexicon(0, 8), 1);
        Due.is("4: a", war.word(0, 0, 10), 0);
        Due.is("4: h", war.word(0, 0, 17), 7);
        Due.is("4: empty", war.count(2), 0);
        war.feed(1, -2, 0, 0, 0);
        war.reserve(0, 0, 1);
        Due.is("4: numbers", war.check(0, 2), 1);
    }

    private static void order() {
        WordWar war = new WordWar();
        Due.is("5: backwards", Due.order(war, 1, "lkjihgfedcba"), true);
        Due.is("5: first", war.count(190 + 12), 11);
        Due.is("5: last", war.count(190 + 23), 0);
        Due.is("5: the other side's", war.count(190), 0);
        Due.is("5: empty then", war.count(2), 0);
        Due.is("5: no tape", war.order(0), false);
        Due.text(war, "\0\1\2\3\4\5\6\7\10\11\12\13");
        Due.is("5: no such side", war.order(2), false);
        Due.is("5: nor this", war.order(-1), false);
        Due.is("5: the tape stays", war.count(2), 20);
        Due.is("5: a to l", war.order(1), true);
        Due.is("5: k", war.count(190 + 22), 10);
        Due.is("5: one twice", Due.order(war, 1, "lkjihgfedcbb"), false);
        Due.is("5: empty then, too", war.count(2), 0);
        Due.text(war, "\0\1\2\3\4\5\6\7\10\11\12\14");
        Due.is("5: no such letter", war.order(1), false);
        Due.is("5: empty then, too", war.count(2), 0);
        Due.text(war, "\0\1\2\3\4\5\6\7\10\11\12\u00ff");
        Due.is("5: nor 255", war.order(1), false);
        Due.is("5: the one before stays", war.count(190 + 12), 0);
    }

    private static void lexicon() {
        WordWar war = new WordWar();
        Due.is("6: two", Due.lexicon(war, 1, "l,abcdefgh"), 2);
        Due.is("6: count", war.count(11), 2);
        Due.is("6: the other side's", war.count(10), 0);
        Due.is("6: l", war.word(1, 0, 10), 11);
        Due.is("6: in its place", Due.lexicon(war, 1, "ab"), 1);
        Due.is("6: count", war.count(11), 1);
        Due.is("6: empty then", war.count(2), 0);
        Due.text(war, "ab");
        Due.is("6: no such side", war.lexicon(2, 2), -1);
        Due.is("6: n 0", war.lexicon(0, 0), -1);
        Due.is("6: n -1", war.lexicon(0, -1), -1);
        Due.is("6: not so many", war.lexicon(0, 21), -1);
        Due.is("6: the tape stays", war.count(2), 20);
        Due.text(war, "a".repeat(180));
        Due.is("6: n 161", war.lexicon(0, 161), -1);
        Due.is("6: the tape stays", war.count(2), 200);
        Due.is("6: n 160", war.lexicon(0, 160), -1002);
        Due.is("6: twelve", Due.lexicon(war, 0, "a,b,c,d,e,f,g,h,i,j,k,l"), 12);
    }

    private static void lexiconFaults() {
        WordWar war = new WordWar();
        Due.lexicon(war, 0, "abc");
        String[] texts = {",", "a,,b", "a,b,", "m", "A", "ab c", "a;b", "a\0", "abcdefghi", "ab,abcdefghi",
            "a,b,a", "ab,cd,ab,x", "ab,cd,ab.", "a,b,c,d,e,f,g,h,i,j,k,l,a", "a,b,c,d,e,f,g,h,i,j,k,l,",
            "a,b,c,d,e,f,g,h,i,j,k,l,m", "abcdefgh,abcdefgha", "a,a,aaaaaaaaa"};
        int[] due = {-1000, -1002, -1004, -1000, -1000, -1002, -1001, -1001, -3008, -3011,
            -6004, -6006, -6006, -4024, -1024,
            -1024, -3017, -6002};
        for (int i = 0; i < texts.length; i++) {
            Due.is("6: " + texts[i], Due.lexicon(war, 0, texts[i]), due[i]);
            Due.is("6: empty then", war.count(2), 0);
            Due.is("6: the one before stays", war.word(0, 0, 0), 3);
        }
    }

    private static void lexiconDissolves() {
        WordWar war = new WordWar();
        Due.lexicon(war, 0, "ab,c,aab");
        Due.reserve(war, 0, "aaabbc");
        Due.is("6: formed", Due.orders(war, 0, "+ab;+c;+aab"), 3);
        war.reserve(0, 0, 998);
        Due.is("6: new", Due.lexicon(war, 0, "d,c,e"), 3);
        Due.is("6: c stands on by its new number", war.count(12), 2);
        Due.is("6: above 999 is lost", war.count(100), 999);
        Due.is("6: b", war.count(101), 2);
        Due.is("6: a fault dissolves nothing", Due.lexicon(war, 0, "d,"), -1002);
        Due.is("6: c stands", war.count(12), 2);
        Due.is("6: none stays", Due.lexicon(war, 0, "a"), 1);
        Due.is("6: none stands", war.count(12), 0);
        Due.is("6: c is home", war.count(102), 1);
    }

    private static void law() {
        WordWar war = new WordWar();
        Due.is("7: one", Due.law(war, "f1(1=1)"), 1);
        Due.is("7: five", Due.law(war, "f1(1=1);p[2](t=0);v99999(!m=0);d1+1-1(i<1|h>2);w5*2/3%4((x=y))"), 5);
        Due.is("7: clauses", war.count(1), 5);
        Due.is("7: empty then", war.count(2), 0);
        Due.text(war, "f1(1=1)");
        Due.is("7: n 0", war.law(0), -1);
        Due.is("7: n -1", war.law(-1), -1);
        Due.is("7: not so many", war.law(21), -1);
        Due.is("7: the tape stays", war.count(2), 20);
        Due.text(war, "f".repeat(200));
        Due.is("7: n 201", war.law(201), -1);
        Due.is("7: n 200", war.law(200), -1007);
        Due.is("7: the one before stays", war.count(1), 5);
        String fourteen = "f1(1=1);".repeat(13) + "f1(1=1)";
        Due.is("7: fourteen", Due.law(war, fourteen), 14);
        Due.is("7: fifteen", Due.law(war, fourteen + ";w"), -4112);
        Due.is("7: no fifteenth", Due.law(war, fourteen + ";"), -1112);
        Due.is("7: nor this", Due.law(war, fourteen + ";a"), -1112);
        Due.is("7: the one before stays", war.count(1), 14);
        String longest = "v" + "1+".repeat(96) + "1(1=1)";
        Due.is("7: 199 bytes", Due.law(war, longest), 1);
        Due.is("7: 200 bytes", Due.law(war, "v1" + longest.substring(1)), 1);
    }

    private static void lawFaults() {
        WordWar war = new WordWar();
        String[] texts = {"a1(1=1)", "f", "f(1=1)", "f1", "f1(", "f1()", "f1(1)", "f1(1=)", "f1(1=1", "f1(1=1)x",
            "f1(1=1);", "f1(1=1);;", "f+1(1=1)", "f1+(1=1)", "f1 (1=1)", "f[1(1=1)", "f[](1=1)", "f1](1=1)",
            "fa(1=1)", "f1(a=1)", "f1((1=1)", "f1((1)=1)", "f1(1=1&)", "f1(1=1||1=1)", "f1(!)", "f1(1==1)",
            "f123456(1=1)", "f12345(000000=1)", "f12345(00000=1)", "f1(1=1))",
            "f[[[[[[1]]]]]](1=1)", "f[[[[[[[1]]]]]]](1=1)", "f1((((((1=1))))))", "f1(((((((1=1)))))))",
            "f1(!!!!!1=1)", "f1(!!!!!!1=1)", "f1(!!!!![1]=1)", "f1(!!!![1]=1)", "f1(!!!!1=[[1]])",
            "f1(!!!!!1=1&!!!!!1=1)", "f1(!(!(![1]=1)))", "f1(!(!(!(1=1))))", "f1(!(!(!1=1)))", "f1(!!!(1=[1])&[[[[[1]]]]]=1)",
            "f1(!!!(1=1)&[[[[[[1]]]]]]=1)"};
        int[] due = {-1000, -1001, -1001, -1002, -1003, -1003, -1004, -1005, -1006, -1007,
            -1008, -1008, -1001, -1003, -1002, -1003, -1002, -1002,
            -1001, -1003, -1008, -1005, -1007, -1007, -1004, -1005,
            -2006, -2012, 1, -1007,
            1, -5007, 1, -5008,
            1, -5008, -5008, 1, -5010,
            1, -5008, -5008, 1, 1,
            -5017};
        for (int i = 0; i < texts.length; i++) {
            Due.is("7: " + texts[i], Due.law(war, texts[i]), due[i]);
            Due.is("7: empty then", war.count(2), 0);
        }
    }

    private static int worth(String law) {
        WordWar war = new WordWar();
        Due.lexicon(war, 1, "abc");
        war.strength(0, 7);
        war.turn();
        Due.is("7: taken " + law, Due.law(war, law) > 0, true);
        return war.word(1, 0, 4);
    }

    private static void lawValues() {
        Due.is("7: none holds", worth("v5(1=2)"), 0);
        Due.is("7: of another letter", worth("w5(1=1);f5(1=1)"), 0);
        Due.is("7: the first that holds", worth("v5(1=2);v6(1=1);v7(1=1)"), 6);
        Due.is("7: above its bound", worth("v99999(1=1)"), 9999);
        Due.is("7: below its bound", worth("v1-2(1=1)"), 0);
        Due.is("7: from the left on", worth("v20-5-3+1(1=1)"), 13);
        Due.is("7: factors first", worth("v2+3*4-100/7/2%4(1=1)"), 11);
        Due.is("7: remainder", worth("v100%7*3(1=1)"), 6);
        Due.is("7: brackets", worth("v[2+3]*[4-1](1=1)"), 15);
        Due.is("7: t i m s", worth("vt*1000+i*100+m*10+s(1=1)"), 1139);
        Due.is("7: not told: 0", worth("v5+n+q+r+x+h+y(1=1)"), 5);
        Due.is("7: 32 bits", worth("v99999*99999/10000/100(1=1)"), 1409);
        Due.is("7: wraps below 0", worth("v50000*50000/100(1=1);v1(1=1)"), 0);
        Due.is("7: towards 0", worth("v10+[0-7]/2(1=1)"), 7);
        Due.is("7: remainder below 0", worth("v10+[0-7]%2(1=1)"), 9);
        Due.is("7: the least number", worth("v5+[0-65536*32768]/[0-1]+65536*32767+65536(1=1)"), 5);
        Due.is("7: <", worth("v5(2<2|3<2);v6(2<3)"), 6);
        Due.is("7: >", worth("v5(2>2|2>3);v6(3>2)"), 6);
        Due.is("7: =", worth("v5(2=3);v6(2=2)"), 6);
        Due.is("7: ! binds its piece alone", worth("v5(!1=2&1=2);v6(!1=1|1=1);v7(1=1)"), 6);
        Due.is("7: ! of a whole", worth("v5(!(1=1|1=2));v6(!!(1=1&2=2))"), 6);
        Due.is("7: & ahead of |", worth("v5(1=1|1=1&1=2)"), 5);
        Due.is("7: ( ) ahead of &", worth("v5((1=1|1=1)&1=2);v6(1=1)"), 6);
    }

    private static void lawRefused() {
        Due.is("7: / 0 in an E", worth("v1/0+5(1=1);v6(1=1)"), 0);
        Due.is("7: % 0 in an E", worth("v5+[1%n](1=1);v6(1=1)"), 0);
        Due.is("7: / 0 in a C", worth("v5(1/0=0);v6(1=1)"), 6);
        Due.is("7: through !", worth("v5(!1/0=0);v6(1=1)"), 6);
        Due.is("7: through ( ) and !", worth("v5(!(!(1%0=0)));v6(1=1)"), 6);
        Due.is("7: through |", worth("v5(1/0=0|1=1);v6(1=1)"), 6);
        Due.is("7: | not asked", worth("v5(1=1|1/0=0);v6(1=1)"), 5);
        Due.is("7: & not asked", worth("v5(1=2&1/0=0|1=1);v6(1=1)"), 5);
        Due.is("7: & asked", worth("v5(1=1&1/0=0|1=1);v6(1=1)"), 6);
        Due.is("7: not asked within ( )", worth("v5(!(1=2&1/0=0));v6(1=1)"), 5);
        Due.is("7: a second | not asked", worth("v5(1=2|1=1|1/0=0);v6(1=1)"), 5);
        Due.is("7: 0 / 0", worth("v0/0(1=1);v6(1=1)"), 0);
    }

    private static void seed() {
        WordWar war = new WordWar();
        Due.is("30: 0", war.seed(0), true);
        Due.is("30: X", war.count(3), 0);
        war.turn();
        Due.is("30: 24 draws", war.count(3) != 0, true);
        Due.is("30: 65535", war.seed(65535), true);
        Due.is("30: 65536", war.seed(65536), false);
        Due.is("30: -1", war.seed(-1), false);
        Due.is("30: X", war.count(3), 65535);
    }
}
