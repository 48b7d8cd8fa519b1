/** The sentences in front of the promises, most of them of the section 'Terms', each with a test of its own. */
public final class TermsTest extends Due {
    private static void terms(String words, Call test) {
        sentence("Terms", words, test);
    }

    public static void main(String[] args) {
        objectsAndConstants();
        texts();
        lines();
        atoms();
        brackets();
        sourcesAndViewsOfAtoms();
        sourcesAndViewsOfPairs();
        sourcesAndViewsOfTheRest();
        onlyTexts();
        goodPairs();
        goodRepeats();
        goodChoices();
        whatIsLookedAtFirst();
        creatingFromAtoms();
        creatingFromTheRest();
        puttingIntoAtoms();
        puttingIntoPairs();
        puttingIntoChoices();
        puttingIntoRepeats();
        keys();
        end();
    }

    private static void objectsAndConstants() {
        sentence("What it is", "An object is used for at most 512 calls after it has been made", () -> {
            TwoWayTexts x = keeping("(=.-.)%", "abbc");
            for (int call = 5; call <= 512; call += 2) {
                due("put, call " + call, x.put(n("ba")), n("bcab"));
                due("from, call " + (call + 1), x.from(0), 1);
            }
            TwoWayTexts y = new TwoWayTexts();
            for (int call = 1; call <= 510; call += 3) {
                due("type, call " + call, y.type(four("a|b")), true);
                due("compile, call " + (call + 1), y.compile(), 0);
                due("many, call " + (call + 2), y.many(0), 2);
            }
            due("note, call 511", y.note(), 2);
            due("differs, call 512", y.differs(), NONE);
        });
        sentence("The public face", "NONE = -1", () -> due("get of no source", with("a").get(0), -1));
        sentence("Terms", "LONG = -2", () -> due("get", with("aaaaaa+a").get(364), -2));
    }

    private static void texts() {
        terms("TEXTS have at most 6 letters", () -> {
            dueMany("cccccc", 1, 1);
            due("six letters", with("cccccc").isSource(1092), true);
            dueMany("ccccccc", 0, 0);
        });
        terms("each a, b or c", () -> {
            dueGood("a", "b", "c");
            dueNoProgram("`", 1);
            dueNoProgram("d", 1);
            dueNoProgram("A", 1);
            dueNoProgram("-d", 2);
            dueNoProgram("+d", 2);
            dueNoProgram("-`", 2);
            dueNoProgram("+`", 2);
        });
        terms("Their NUMBERS are in order of length, then of letters", () -> {
            due("the empty one", with("+a").isSource(0), true);
            String[] texts = {"a", "b", "c", "aa", "ab", "ac", "ba", "cc", "aaa", "bac", "ccc", "aaaa", "cccc", "aaaaa",
                "ccccc", "aaaaaa", "aaaaab", "baaaaa", "cccccc"};
            int[] numbers = {1, 2, 3, 4, 5, 6, 7, 12, 13, 24, 39, 40, 120, 121, 363, 364, 365, 607, 1092};
            for (int i = 0; i < texts.length; i++) {
                TwoWayTexts x = with(texts[i]);
                due(texts[i] + " being a source", x.isSource(numbers[i]), true);
                due("how many are", x.many(0), 1);
            }
        });
        terms("LONGER ones may come up on the way", () -> {
            dueMany("aaaaaaa|b", 1, 1);
            dueMany("(aaaaaaa)*", 1, 1);
            due("seven hidden ones created", with("-a-a-a-a-a-a-a").create(0), LONG);
            due("seven added ones shown", with("+a+a+a+a+a+a+a").get(0), LONG);
        });
        terms("LONG = -2: Answered when what comes is longer than a text", () -> {
            due("six letters shown", with(".*+a").get(n("aaaaa")), n("aaaaaa"));
            due("seven letters shown", with(".*+a").get(n("aaaaaa")), LONG);
            due("twelve letters shown", with("(.+a)*").get(1092), LONG);
            due("six letters created", with(".*-a").create(n("aaaaa")), n("aaaaaa"));
            due("seven letters created", with(".*-a").create(n("aaaaaa")), LONG);
            due("six letters put", putInto(".*-a", "a", "aaaaa"), n("aaaaaa"));
            due("seven letters put", putInto(".*-a", "a", "aaaaaa"), LONG);
        });
    }

    private static void lines() {
        terms("A PROGRAM is a line of at most 16 characters", () -> {
            TwoWayTexts x = with("a|b|c|aa|bb|ccaa");
            due("the sources of sixteen characters", x.many(0), 6);
            due("the last of them", x.isSource(n("ccaa")), true);
            dueGood("aaaaaaaaaaaaaaaa", "===============a", "a*b*c*a|a*b*c*bb", "^^^^^^^aaaaaaaa*");
            typeLine(x, "a|b|c|aa|bb|ccaa");
            due("a seventeenth character", x.type('a'), false);
        });
        terms("a SUM is one or more CHAINS with | between", () -> {
            dueGood("a", "a|b", "a|b|c");
            dueNoProgram("|", 1);
            dueNoProgram("|a", 1);
            dueNoProgram("a|", 3);
            dueNoProgram("a||b", 3);
            dueNoProgram("(|a)", 2);
            dueNoProgram("(a|)", 4);
        });
        terms("a chain is one or more PIECES", () -> {
            dueGood("a", "ab", "a*b%c");
            dueNoProgram("", 1);
            dueNoProgram("()", 2);
            dueNoProgram("a|)", 3);
        });
        terms("a piece is an ATOM, and then perhaps * or %", () -> {
            dueGood("a", "a*", "a%", "((a*b)*c)%", "^ab*", "=a%");
            dueNoProgram("*", 1);
            dueNoProgram("%a", 1);
            dueNoProgram("a**", 3);
            dueNoProgram("a*%", 3);
            dueNoProgram("a%*", 3);
            dueNoProgram("a%%", 3);
            dueNoProgram("a|*", 3);
            dueMany("^ab*", 4, 4);
        });
        terms("Chains and sums are joined from the left, two at a time", () -> {
            dueFailure("a|b|a", 4, 6, n("a"));
            dueFailure("a|b|c|a", 6, 6, n("a"));
            dueFailure("a*b*a*", 5, 2, n("a"));
            dueFailure("a*b*c*a*", 7, 2, n("a"));
        });
    }

    private static void atoms() {
        terms("an atom is a letter, a dot", () -> {
            dueGood("a", "b", "c", ".");
            for (String sign : new String[] {" ", "!", "'", ",", "/", "0", "@", "[", "]", "_", "{", "~"}) {
                dueNoProgram(sign, 1);
                dueNoProgram("a" + sign + "a", 2);
            }
        });
        terms("- and a letter or dot", () -> {
            dueGood("-a", "-b", "-c", "-.");
            dueNoProgram("-", 2);
            for (String line : new String[] {"-(a)", "--a", "-+a", "-=a", "-^ab", "-*", "-|a", "-)"}) {
                dueNoProgram(line, 2);
            }
        });
        terms("+ and a letter", () -> {
            dueGood("+a", "+b", "+c");
            dueNoProgram("+", 2);
            for (String line : new String[] {"+.", "+(a)", "++a", "+-a", "+=a", "+^ab", "+*", "+|a", "+)"}) {
                dueNoProgram(line, 2);
            }
        });
        terms("^ and two atoms", () -> {
            dueGood("^ab", "^.-a", "^-a+b", "^=ab", "^a^bc", "^^abc", "^(a*)(b%)");
            dueNoProgram("^", 2);
            dueNoProgram("^a", 3);
            dueNoProgram("^^ab", 5);
            for (String line : new String[] {"^a*b", "^a%b", "^a|b", "^a)b"}) {
                dueNoProgram(line, 3);
            }
            dueNoProgram("^*", 2);
            dueShown("^abc", "abc", "bac");
        });
        terms("= and an atom", () -> {
            dueGood("=a", "=.", "=-a", "=+a", "==a", "=^ab", "=(a|b)");
            dueNoProgram("=", 2);
            dueNoProgram("==", 3);
            for (String line : new String[] {"=*", "=%", "=|a", "=)"}) {
                dueNoProgram(line, 2);
            }
            due("the key of =ab", with("=ab").key(n("ab")), n("a"));
        });
    }

    private static void brackets() {
        terms("or a sum in round brackets", () -> {
            dueGood("(a)", "(a|b)", "(a)(b)", "((a))b");
            dueNoProgram("(", 2);
            dueNoProgram("(a", 3);
            dueNoProgram("(a|b", 5);
            dueNoProgram("((a)", 5);
            dueNoProgram(")", 1);
            dueNoProgram("a)", 2);
            dueNoProgram("(a))", 4);
            dueNoProgram("[a]", 1);
            dueNoProgram("(a]", 3);
        });
        terms("(at most 4 deep)", () -> {
            dueGood("((((a))))", "((((a)(b))))", "((((a))))(((b)))", "^((((a))))(b)", "=(=(=(=(a))))");
            dueNoProgram("(((((a)))))", 5);
            dueNoProgram("((((a|(b", 7);
            dueNoProgram("((((a(b", 6);
            dueNoProgram("(((^(a)(b(", 10);
            dueNoProgram("(=(=(=(=(a)))))", 9);
            dueNoProgram("^((((a))))((((((", 15);
        });
    }

    private static void sourcesAndViewsOfAtoms() {
        terms("A letter: just that one, as itself", () -> {
            dueShown("b", "b", "b");
            dueViews("b", "b");
        });
        terms("a dot: a, b and c, each as itself", () -> {
            dueShown(".", "a", "a", "b", "b", "c", "c");
            dueViews(".", "a", "b", "c");
        });
        terms("- and a letter: that one, as the empty text", () -> {
            dueShown("-b", "b", "");
            dueViews("-b", "");
        });
        terms("- and a dot: a, b and c, as the empty text", () -> {
            dueShown("-.", "a", "", "b", "", "c", "");
            dueViews("-.", "");
        });
        terms("+ and a letter: the empty text, as that letter", () -> {
            dueShown("+b", "", "b");
            dueViews("+b", "b");
        });
    }

    private static void sourcesAndViewsOfPairs() {
        terms("P JOINED with Q: sources are those of P, each with one of Q behind it, views likewise", () -> {
            dueShown("(a|-b)(+c|cc)", "a", "ac", "acc", "acc", "b", "c", "bcc", "cc");
            dueViews("(a|-b)(+c|cc)", "ac", "acc", "c", "cc");
        });
        terms("it shows what P shows of the first, and behind it what Q shows of the other", () ->
            dueShown("(a+b)(-a+c)", "aa", "abc"));
        terms("^PQ: sources likewise; a view is one of Q with one of P behind it", () -> {
            dueShown("^(a|b)(c|-a)", "ac", "ca", "aa", "a", "bc", "cb", "ba", "b");
            dueViews("^(a|b)(c|-a)", "ca", "a", "cb", "b");
        });
        terms("it shows what Q shows of the second, then what P shows of the first", () ->
            dueShown("^(a+b)(-a+c)", "aa", "cab"));
    }

    private static void sourcesAndViewsOfTheRest() {
        terms("=P: as P", () -> {
            dueShown("=(a-b)", "ab", "a");
            dueViews("=(a-b)", "a");
        });
        terms("P|Q: the sources of both, and the views of both", () -> {
            dueShown("a|-b+a|+c", "a", "a", "b", "a", "", "c");
            dueViews("a|-b+a|+c", "a", "c");
        });
        terms("it shows as the one does whose source it is", () -> {
            dueShown("-a+c|b+b", "a", "c", "b", "bb");
            dueShown("c|-b+a|a+c", "c", "c", "b", "a", "a", "ac");
        });
        terms("P* and P%: none or more sources of P one behind the other, views likewise", () -> {
            dueShown("(ab)*", "", "", "ab", "ab", "abab", "abab", "ababab", "ababab");
            dueViews("(ab)%", "", "ab", "abab", "ababab");
            dueShown("(aab-b)%", "", "", "aabb", "aab");
            dueViews("(aab-b)*", "", "aab", "aabaab");
        });
        terms("it shows them one by one", () -> {
            due("by place", with("(^ab|-b+c)*").get(n("babb")), n("cbac"));
            due("by key", with("(^ab|-b+c)%").get(n("abb")), n("bac"));
            due("none", with("(^ab|-b+c)*").get(0), 0);
        });
    }

    private static void onlyTexts() {
        String words = "(Of all these only texts, up to 6 letters, are sources and views.)";
        terms(words + " joined", () -> {
            dueMany("aaa(bbb|bbbb)", 1, 1);
            due("six letters", with("aaa(bbb|bbbb)").isView(n("aaabbb")), true);
            dueMany("-aaa(bbb|bbbb)", 1, 2);
            dueMany("aaa(+bbbb|b)", 2, 1);
        });
        terms(words + " ^", () -> {
            dueMany("^(aaa)(bbb|bbbb)", 1, 1);
            due("six letters", with("^(aaa)(bbb|bbbb)").isView(n("bbbaaa")), true);
            dueMany("^(-aaaa)(bbb|c)", 1, 2);
            dueMany("^(+aaaa)(bbb|c)", 2, 1);
        });
        terms(words + " * and %", () -> {
            dueMany(".*", 1093, 1093);
            dueMany(".%", 1093, 1093);
            dueMany("(aa)*", 4, 4);
            dueMany("(aaaa)%", 2, 2);
            dueMany("(-a-a-a+b)*", 3, 7);
            dueMany("(+a+a+ab)%", 7, 2);
        });
        terms(words + " = and |", () -> {
            dueMany("=(aaaaaaa)", 0, 0);
            dueMany("b|aaaaaaa|cccccc", 2, 2);
            dueMany("a|-b-b-b-b-b-b-b", 1, 2);
        });
    }

    private static void goodPairs() {
        String words = "joined, ^: no source and no view has two WAYS to be parted into one of the first and one of the second";
        terms(words + ": a source, joined", () -> {
            dueFailure("(a|ab)(c|bc)", 7, 2, n("abc"));
            dueFailure("a*a*", 3, 2, n("a"));
            dueFailure("aa*(a|aaaaa)", 4, 2, n("aaaaaa"));
            // Seven letters are no source: that they have two ways is no matter.
            dueMany("aa*(a|aaaaaa)", 5, 5);
            dueGood("a*b*", "a*ba*");
        });
        terms(words + ": a source, ^", () -> {
            dueFailure("^(a|ab)(c|bc)", 1, 2, n("abc"));
            dueFailure("^(aa*)(a|aaaaa)", 1, 2, n("aaaaaa"));
            dueMany("^(aa*)(a|aaaaaa)", 5, 5);
            dueGood("^(a*)(b*)", "^(a*)(ba)");
        });
        terms(words + ": a view, joined", () -> {
            dueFailure("(a|-b)(a|-b)", 7, 3, n("a"));
            dueFailure("aa*(a|-baaaaa)", 4, 3, n("aaaaaa"));
            dueMany("aa*(a|-baaaaaa)", 5, 5);
            dueFailure("a*(-ba*)", 3, 3, n("a"));
        });
        terms(words + ": a view, ^", () -> {
            dueFailure("^(a|-b)(a|-b)", 1, 3, n("a"));
            dueFailure("^(a*)(-b|aaaaaa)", 1, 3, n("aaaaaa"));
            // As the views stand, not as the sources do.
            dueFailure("^(c|bc)(a|-bab)", 1, 3, n("abc"));
            dueGood("^(a|-bab)(c|bc)");
        });
    }

    private static void goodRepeats() {
        String words = "* and %: none has two ways to be parted into such of P";
        terms(words + ": a source", () -> {
            dueFailure("(aaa|aaaaaa)*", 13, 4, n("aaaaaa"));
            dueFailure("(aaa|aaaaaa)%", 13, 4, n("aaaaaa"));
            dueFailure("(a|ab|ba)*", 10, 4, n("aba"));
            dueMany("(aaa|aaaa)*", 4, 4);
            dueMany("(aaa|aaaa)%", 4, 4);
            dueGood("(a|ab)*", "(ab|b)%");
        });
        terms(words + ": a view", () -> {
            dueFailure("(aaa|-baaaaaa)*", 15, 5, n("aaaaaa"));
            dueFailure("(aaa|-baaaaaa)%", 15, 5, n("aaaaaa"));
            dueGood("(aaa|-baaaa)*", "(aaa|-baaaa)%");
            // A view of two sources is parted in one way still.
            dueGood("(a|-b+a)*", "(a|-b+a)%");
        });
        terms("(the empty text: no part at all is one way, the empty text being one of P is another)", () -> {
            dueFailure("(+a)*", 5, 4, 0);
            dueFailure("(+a)%", 5, 4, 0);
            dueFailure("(-a)*", 5, 5, 0);
            dueFailure("(-a)%", 5, 5, 0);
            dueFailure("(a*)*", 5, 4, 0);
            dueFailure("(b|aa|a|+c)*", 12, 4, 0);
            dueFailure("(b|-ca|-aa|-c)*", 15, 5, 0);
            dueGood("a*", "a%", "(a*b)*", "(+a-b)*");
        });
    }

    private static void goodChoices() {
        terms("P|Q: no text is a source of both", () -> {
            dueFailure("a|a", 2, 6, n("a"));
            dueFailure("+a|+b", 3, 6, 0);
            dueFailure(".*|cccccc", 3, 6, 1092);
            dueFailure("b-a|ba", 4, 6, n("ba"));
            dueFailure("aaaaaa|aaaaaa", 7, 6, n("aaaaaa"));
            dueGood("aaaaaaa|aaaaaaa", "a|b", "a|-b+a", "-a|-b|-c");
        });
    }

    private static void whatIsLookedAtFirst() {
        terms("they are looked at from within", () -> {
            dueFailure("a|(a|b|b)", 7, 6, n("b"));
            dueFailure("(a|aa|b|b)*", 8, 6, n("b"));
            dueFailure("(a*b|(a*)%)%", 10, 4, 0);
            dueFailure("a*(a*(b|b))", 8, 6, n("b"));
            dueFailure("^(a*)(a*(b|b))", 11, 6, n("b"));
            dueFailure("=(a*|a*)*", 5, 6, 0);
        });
        terms("those that end earlier first", () -> {
            dueFailure("(b|b)(a|a)", 3, 6, n("b"));
            dueFailure("(b|b)|(a|a)", 3, 6, n("b"));
            dueFailure("^(b|b)(a|a)", 4, 6, n("b"));
            dueFailure("a|a|b|b", 2, 6, n("a"));
            dueFailure("a*a*(+b)*", 3, 2, n("a"));
        });
        terms("(P|Q and a joining end with Q)", () -> {
            dueFailure("a|a(+b)*", 8, 4, 0);
            dueFailure("a|a*a*", 5, 2, n("a"));
            dueFailure("a*a(+b)*", 8, 4, 0);
            dueFailure("a*a*b|(c|c)", 3, 2, n("a"));
            dueFailure("a*(ab|ab)", 6, 6, n("ab"));
        });
        terms("and of each the sources first", () -> {
            dueFailure("(a-a|a-ab)(c|bc)", 11, 2, n("aabc"));
            dueFailure("^(a|aa)(a|aa)", 1, 2, n("aaa"));
            dueFailure("(-a|-a-a)*", 10, 4, n("aa"));
            dueFailure("(-a|-a-a)%", 10, 4, n("aa"));
        });
    }

    private static void creatingFromAtoms() {
        terms("a letter or - and a letter: that letter", () -> {
            due("b", with("b").create(n("b")), n("b"));
            due("-a", with("-a").create(0), n("a"));
            due("-c", with("-c").create(0), n("c"));
        });
        terms("a dot: w", () -> {
            for (int letter = 1; letter <= 3; letter++) {
                due("a letter", with(".").create(letter), letter);
            }
        });
        terms("- and a dot: a", () -> {
            due("-.", with("-.").create(0), n("a"));
            due("c-.", with("c-.").create(n("c")), n("ca"));
        });
        terms("+ and a letter: the empty text", () -> {
            due("+c", with("+c").create(n("c")), 0);
            due("a+c", with("a+c").create(n("ac")), n("a"));
        });
    }

    private static void creatingFromTheRest() {
        terms("joined and ^: from the parts of w (its one way) for P and Q, P's first", () -> {
            due("joined", with("(.-b)(-c.)").create(n("ca")), n("cbca"));
            due("exchanged", with("^(.-b)(-c.)").create(n("ca")), n("abcc"));
            due("nothing in front", with("a*b*").create(n("bb")), n("bb"));
            due("nothing behind", with("a*b*").create(n("aa")), n("aa"));
            due("nothing at all", with("^(a*)(b*)").create(0), 0);
        });
        terms("=: as P", () -> {
            due("create", with("=(.-b)").create(n("c")), n("cb"));
            due("put", putInto("=(.-.)", "ac", "b"), n("bc"));
        });
        terms("P|Q: as P when w is a view of P, otherwise as Q", () -> {
            due("a view of both", with("-b+a|a").create(n("a")), n("b"));
            due("a view of P alone", with("-b+a|c").create(n("a")), n("b"));
            due("a view of Q alone", with("a|-b+c").create(n("c")), n("b"));
            due("a view of both, P's source too long", with("-a-a-a-a-a-a-a|a").create(0), LONG);
        });
        terms("* and %: from all parts, one by one", () -> {
            for (String sign : new String[] {"*", "%"}) {
                TwoWayTexts x = with("(=.-.)" + sign);
                due("no part", x.create(0), 0);
                due("one part", x.create(n("c")), n("ca"));
                due("three parts", x.create(n("bcb")), n("bacaba"));
                due("six parts", with("." + sign).create(n("abccba")), n("abccba"));
            }
        });
    }

    private static void puttingIntoAtoms() {
        terms("PUTTING a view w into a source s: a letter, a dot: w", () -> {
            due("a letter", putInto("b", "b", "b"), n("b"));
            due("a dot", putInto(".", "a", "c"), n("c"));
        });
        terms("- and any: s", () -> {
            due("- and a letter", putInto("-c", "c", ""), n("c"));
            due("- and a dot", putInto("-.", "b", ""), n("b"));
            due("between others", putInto(".-..", "abc", "cc"), n("cbc"));
        });
        terms("PUTTING: + and a letter: the empty text", () -> {
            due("+c", putInto("+c", "", "c"), 0);
            due("between others", putInto(".+a.", "bc", "cab"), n("cb"));
        });
    }

    private static void puttingIntoPairs() {
        terms("joined and ^: the parts of w into those of s, P's first", () -> {
            due("joined", putInto("(-..)(.-.)", "abca", "cb"), n("acba"));
            due("exchanged", putInto("^(-..)(.-.)", "abca", "ac"), n("acaa"));
            due("exchanged", putInto("^(.-.)(b.)", "acba", "bcc"), n("ccbc"));
            due("nothing in front", putInto("(a-.)*b*", "acb", "bb"), n("bb"));
            due("nothing behind", putInto("(a-.)*b*", "acb", "aa"), n("acaa"));
        });
    }

    private static void puttingIntoChoices() {
        terms("when s is a source of P: as P when w is a view of P", () -> {
            due("of P alone", putInto("-.a|-cb", "ba", "a"), n("ba"));
            due("of both", putInto("-.a|-b-b+a", "ca", "a"), n("ca"));
        });
        terms("otherwise created as Q does", () -> due("of Q alone", putInto("-ba|-cb", "ba", "b"), n("cb")));
        terms("when s is one of Q: as Q when w is a view of Q", () -> {
            due("of Q alone", putInto("-.a|-.b", "cb", "b"), n("cb"));
            due("of both", putInto("a|-b+a", "b", "a"), n("b"));
        });
        terms("otherwise created as P does", () -> due("of P alone", putInto("-ba|-cb", "cb", "a"), n("ba")));
    }

    private static void puttingIntoRepeats() {
        terms("P*: the parts of w, in order: each into the part of s with the same place", () -> {
            due("as many", putInto("(=.-.)*", "aabbca", "cab"), n("caabba"));
            due("fewer", putInto("(=.-.)*", "acbcaa", "c"), n("cc"));
            due("none", putInto("(=.-.)*", "acbc", ""), 0);
        });
        terms("P*: when there is none, created", () -> {
            due("one more", putInto("(=.-.)*", "ac", "cb"), n("ccba"));
            due("into none", putInto("(=.-.)*", "", "cb"), n("caba"));
        });
        terms("P%: each into the part of s with the same KEY", () -> {
            due("in another order", putInto("(=.-.)%", "aabbcc", "cab"), n("ccaabb"));
            due("fewer", putInto("(=.-.)%", "acbcaa", "b"), n("bc"));
            due("none", putInto("(=.-.)%", "acbc", ""), 0);
        });
        terms("the j-th part of w with a key into the j-th one of s with that key", () -> {
            due("two of a key", putInto("(=.-.)%", "abbcac", "aba"), n("abbcac"));
            due("two of a key in another order", putInto("(=.-.)%", "abbcac", "baa"), n("bcabac"));
            due("all of one key", putInto("(.-.)%", "abbcca", "bb"), n("bbbc"));
        });
        terms("P%: when there is none, created", () -> {
            due("no such key", putInto("(=.-.)%", "abac", "ba"), n("baab"));
            due("a key once more", putInto("(=.-.)%", "abac", "aaa"), n("abacaa"));
            due("into none", putInto("(=.-.)%", "", "cb"), n("caba"));
        });
    }

    private static void keys() {
        terms("The key of a view w of a part: of =P it is w", () -> {
            due("=(.b)", with("=(.b)").key(n("cb")), n("cb"));
            due("= within =", with("=(a=b)").key(n("ab")), n("ab"));
            due("the empty text", with("=-a").key(0), 0);
            due("six letters", with("=(.*)").key(1092), 1092);
        });
        terms("of others the keys of parts joined (P's first, also for ^PQ; under * and % one by one)", () -> {
            due("joined", with("=.b=.").key(n("cba")), n("ca"));
            due("exchanged", with("^=.=.").key(n("ba")), n("ab"));
            due("*", with("(=..)*").key(n("abca")), n("ac"));
            due("%", with("(=..)%").key(n("abca")), n("ac"));
            due("none under *", with("=.*").key(0), 0);
            due("six under %", with("=.%").key(n("abccba")), n("abccba"));
        });
        terms("nothing for letters, dots, - and +", () -> {
            due("a letter", with("b").key(n("b")), 0);
            due("a dot", with(".").key(n("c")), 0);
            due("-", with("-a").key(0), 0);
            due("+", with("+a").key(n("a")), 0);
        });
        terms("for P|Q as P when w is a view of P, otherwise as Q", () -> {
            due("a view of both", with("=a|-b+a").key(n("a")), n("a"));
            due("a view of both", with("-b+a|=a").key(n("a")), 0);
            due("a view of Q alone", with("a|=b").key(n("b")), n("b"));
            due("a view of Q alone", with("=a|b").key(n("b")), 0);
        });
        terms("The key of a part of s is that of what is shown of it", () -> {
            due("not the key of the part itself", putInto("(=(-c+a|b)-.)%", "cbbc", "ba"), n("bccb"));
            // Of the part ac, too, a is shown, whose key is P's: nothing.
            TwoWayTexts x = keeping("(-b+a|=a-.)%", "bac");
            due("put", x.put(n("aa")), n("bac"));
            dueFrom(x, 0, 1);
        });
    }
}
