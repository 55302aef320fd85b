/** Promises 3 to 6: a host's text, its classes and members, and subtypes; term 2. */
public final class HostTest {
    public static void main(String[] args) {
        tells();
        subtypes();
        anew();
        faultsOfTokens();
        faultsOfNames();
        faultsOfTypes();
        faultsOfSupers();
        faultsOfRoom();
        faultsOfInterfaces();
        faultsOfTypesAgain();
        Bench.end();
    }

    private static void tells() {
        Bench.about("promises 4 and 5");
        Bench bench = new Bench();
        Bench.due("host()", bench.host("interface I { } class A : I { int a; static long b; new (int, A...); }"
                + " interface J : I { Text m(I); } class B : J, A { void n(); } class C { }"), 0);
        Face tongue = bench.tongue;
        Bench.due("count(1)", tongue.count(1), 5);
        Bench.due("count(2)", tongue.count(2), 5);
        int[][] types = {{1, -1, 0, 0, 0}, {0, -1, 1, 3, 0}, {1, -1, 1, 1, 3}, {0, 1, 2, 1, 4}, {0, -1, 0, 0, 5}};
        for (int k = 0; k < types.length; k++) {
            for (int what = 0; what < 5; what++) {
                Bench.due("type(" + k + ", " + what + ")", tongue.type(k, what), types[k][what]);
            }
            Bench.due("type(k, -1)", tongue.type(k, -1), -1);
            Bench.due("type(k, 5)", tongue.type(k, 5), -1);
        }
        Bench.due("type(-1, 0)", tongue.type(-1, 0), -1);
        Bench.due("type(5, 0)", tongue.type(5, 0), -1);
        int[][] members = {{1, 0, 0, 1, 0, 0}, {1, 0, 1, 2, 0, 0}, {1, 2, 0, 10, 2, 1, 1, 10},
            {2, 1, 0, 7, 1, 0, 9}, {3, 1, 0, 0, 0, 0}};
        for (int k = 0; k < members.length; k++) {
            for (int what = 0; what < 15; what++) {
                int want = what < members[k].length ? members[k][what] : -1;
                Bench.due("member(" + k + ", " + what + ")", tongue.member(k, what), want);
            }
            Bench.due("member(k, -1)", tongue.member(k, -1), -1);
        }
        Bench.due("member(-1, 0)", tongue.member(-1, 0), -1);
        Bench.due("member(5, 0)", tongue.member(5, 0), -1);
        Bench.due("member(0, most)", tongue.member(0, Integer.MAX_VALUE), -1);
    }

    private static void subtypes() {
        Bench.about("promise 6");
        Bench bench = new Bench();
        // I 9, J 10, A 11, B 12, C 13
        bench.host("interface I { } interface J : I { } class A : J { } class B : A { } class C { }");
        String[] above = {"", "1 2", "2", "3", "4 8", "5 8", "6 8", "7 8", "8", "9 8", "10 9 8", "11 10 9 8",
            "12 11 10 9 8", "13 8"};
        for (int type = -1; type <= 14; type++) {
            for (int of = -1; of <= 14; of++) {
                boolean want = type >= 0 && type <= 13 && (" " + above[type] + " ").contains(" " + of + " ");
                Bench.due("subtype(" + type + ", " + of + ")", bench.tongue.subtype(type, of), want);
            }
        }
        Bench.due("subtype of none", bench.tongue.subtype(Integer.MIN_VALUE, Integer.MAX_VALUE), false);
    }

    private static void anew() {
        Bench.about("promise 3");
        Bench bench = new Bench();
        bench.host("class A { new (); void m(); }");
        bench.run(0, "a = new (host(\"A\"))(); a.m(); o = make({ a: 1 }); print(\"x\" + 1); return 7;");
        Bench.due("ended", bench.end(0), "2 2 7");
        bench.feed("class ");
        Bench.due("a fault", bench.tongue.host(), 1 + 16 * 6);
        Bench.due("the tape is empty", bench.tongue.count(0), 0);
        Bench.due("all else stays", bench.end(0) + " " + bench.tongue.count(1) + " " + bench.output(), "2 2 7 1 x1\n");
        bench.compile("while (true) { }");
        bench.tongue.start(1, 1);
        Bench.due("host() of nothing", bench.tongue.host(), 0);
        for (int what = 0; what <= 23; what++) {
            int want = what == 12 ? 1 : what == 18 || what == 19 ? -1 : 0;
            Bench.due("count(" + what + ")", bench.tongue.count(what), want);
        }
        Bench.due("task(0, 0)", bench.tongue.task(0, 0), 0);
        Bench.due("task(1, 0)", bench.tongue.task(1, 0), 0);
        Bench.due("task(1, 1)", bench.tongue.task(1, 1), 0);
        Bench.due("no global", bench.global("o"), "none");
        Bench.due("output(0)", bench.tongue.output(0), -1);
        Bench.due("trace(0)", bench.tongue.trace(0), -1);
        Bench.due("thing(0, 0)", bench.tongue.thing(0, 0), -1);
        bench.run(0, "o = make({ a: 1 }); print(o.a);");
        Bench.due("a new unit runs", bench.output(), "1\n");
        Bench.due("shapes from 1 on", bench.shape(1) + ", " + bench.shape(2), "-1 a, 0");
    }

    private static void refused(String text, int kind, int place) {
        Bench bench = new Bench();
        Bench.due("host of " + text, bench.host(text), kind + 16 * place);
        Bench.due("no class of " + text, bench.tongue.count(1), 0);
    }

    private static void taken(String text) {
        Bench.due("host of " + text, new Bench().host(text), 0);
    }

    private static void faultsOfTokens() {
        Bench.about("a host's fault 1");
        refused("klass A { }", 1, 0);
        refused("; class A { }", 1, 0);
        refused("class 1 { }", 1, 6);
        refused("class A", 1, 7);
        refused("class A ( }", 1, 8);
        refused("class A : { }", 1, 10);
        refused("class A { } class B : A, { }", 1, 25);
        refused("class A {", 1, 9);
        refused("class A { int", 1, 13);
        refused("class A { int a", 1, 15);
        refused("class A { int a }", 1, 16);
        refused("class A { int ; }", 1, 14);
        refused("class A { int a = 1; }", 1, 16);
        refused("class A { int a(int b); }", 1, 20);
        refused("class A { int a(int,); }", 1, 20);
        refused("class A { int a(,int); }", 1, 16);
        refused("class A { int a(int..., int); }", 1, 22);
        refused("class A { int a(int .. .); }", 1, 20);
        refused("class A { int a(...); }", 1, 16);
        refused("class A { int a() }", 1, 18);
        refused("class A { new ; }", 1, 14);
        refused("class A { new A(); }", 1, 14);
        refused("class A { static new (); }", 1, 17);
        refused("class A { static ; }", 1, 17);
        refused("class A { static }", 1, 17);
        refused("class A { void a; }", 1, 16);
        refused("class A { int a; void a; }", 1, 23);
        refused("interface A { void a; }", 1, 20);
        refused("class A { \"a\" }", 1, 10);
        refused("class A { } }", 1, 12);
        refused("class A { int a & }", 1, 16);
        taken("");
        taken(" // nothing\n");
        taken("class A{int a;int a();static int b;static void b();new();new(int...);}");
        taken("class if { int while; fun fun(); } ".replace("fun fun", "int fun"));
    }

    private static void faultsOfNames() {
        Bench.about("a host's fault 2");
        refused("class A { } class A { }", 2, 18);
        refused("class A { } interface A { }", 2, 22);
        refused("class int { }", 2, 6);
        refused("class class { }", 2, 6);
        refused("class void { }", 2, 6);
        refused("interface Any { }", 2, 10);
        refused("class A { int a; int a; }", 2, 21);
        refused("class A { int a; static Any a; }", 2, 28);
        refused("class A { int a; int a int b; }", 1, 23);
        refused("class A { int static; }", 2, 14);
        refused("class A { int new(); }", 2, 14);
        refused("class A { void Text(); }", 2, 15);
        refused("class A { void void; }", 2, 15);
        refused("class A { void int; }", 2, 15);
        refused("interface A { int Bool; }", 2, 18);
        taken("class A { int a; } class B : A { int a; }");
        taken("class A { int A; int B; } class B { void A(); }");
    }

    private static void faultsOfTypes() {
        Bench.about("a host's fault 3");
        refused("class A { B b; } class B { }", 3, 10);
        refused("class A { class b; }", 3, 10);
        refused("class A { interface b; }", 3, 10);
        refused("class A { static static int b; }", 3, 17);
        refused("class A { static class b; }", 3, 17);
        refused("class A { int m(void); }", 3, 16);
        refused("class A { int m(int, B); }", 3, 21);
        refused("class A { int m(new); }", 3, 16);
        refused("class A { int m(static int); }", 3, 16);
        refused("class A : B { }", 3, 10);
        refused("class A : A { }", 3, 10);
        refused("class A : int { }", 3, 10);
        refused("class A : Any { }", 3, 10);
        refused("class A : class { }", 3, 10);
        refused("interface I : void { }", 3, 14);
        taken("class A { A a; A m(A, A...); new (A); }");
    }

    private static void faultsOfSupers() {
        Bench.about("a host's fault 4");
        refused("class A { } class B { } class C : A, B { }", 4, 37);
        refused("interface I { } class A { } class C : I, A, I { }", 4, 44);
        refused("class A { } class C : A, A { }", 4, 25);
        refused("class A { } interface I : A { }", 4, 26);
        refused("interface I { } interface J : I, I { }", 4, 33);
        taken("interface I { } interface J : I { } class A { } class B : I, A, J { }");
    }

    private static void faultsOfRoom() {
        Bench.about("a host's fault 5");
        StringBuilder classes = new StringBuilder();
        for (int k = 0; k < 60; k++) {
            classes.append("class c").append(k).append("{}");
        }
        taken(classes.toString());
        refused(classes + "class x{}", 5, classes.length() + 6);
        refused(classes + "class c7{}", 2, classes.length() + 6);
        refused(classes + "class 7{}", 1, classes.length() + 6);
        StringBuilder members = new StringBuilder("class A{");
        for (int k = 0; k < 399; k++) {
            members.append("int a").append(k).append(';');
        }
        String most = members + "new();";
        taken(most + "}");
        refused(most + "int b;}", 5, most.length());
        refused(most + "B b;}", 3, most.length());
        refused(most + "new(int);}", 5, most.length());
        refused(most + "static int b;}", 5, most.length() + 7);
        refused(most + "}interface I{new();}", 5, most.length() + 13);
        refused(most + "}interface I{static int a();}", 6, most.length() + 13);
        taken("class A { void m(int, int, int, int, int, int, int, int...); }");
        refused("class A { void m(int, int, int, int, int, int, int, int, int); }", 5, 57);
        refused("class A { void m(int, int, int, int, int, int, int, int, void); }", 3, 57);
    }

    private static void faultsOfInterfaces() {
        Bench.about("a host's fault 6");
        refused("interface I { int a; }", 6, 18);
        refused("interface I { new (); }", 6, 14);
        refused("interface I { static int a(); }", 6, 14);
        refused("interface I { static new (); }", 6, 14);
        refused("interface I { int a }", 1, 20);
        taken("interface I { int a(); void b(int...); }");
    }

    private static void faultsOfTypesAgain() {
        Bench.about("a host's fault 7");
        refused("class A { int m(); Any m(); }", 7, 25);
        refused("class A { int m(int); static int m(int); }", 7, 38);
        refused("class A { int m(int, A); int m(int, A...); }", 7, 40);
        refused("class A { new (); new (); }", 7, 23);
        refused("class A { new (int...); new (int); }", 7, 32);
        refused("interface I { int m(); int m(); }", 7, 29);
        taken("class A { int m(); int m(int); int m(long); int n(); new (int); new (long); }");
        taken("class A { int m(); } class B : A { Any m(); }");
    }
}
