@Part("What it is")
public final class WhatItIsTest {
    public static void main(String[] args) {
        Sentences.run(WhatItIsTest.class);
    }

    @Says("An object is used for at most 512 calls after it has been made")
    static void all512CallsAreAnswered(Check check) {
        MeasureRows x = Made.fullOfLand5();
        for (int call = 81; call < 512; call++) {
            check.due("call " + call, x.apply(100000, 5, 0, 0), 80);
        }
        check.due("call 512", x.at(79), 77);
    }

    @Says("An object is used for at most 512 calls after it has been made")
    static void call512MayChangeSomething(Check check) {
        MeasureRows x = new MeasureRows();
        for (int call = 1; call < 512; call++) {
            x.papers(call);
        }
        check.due("call 512", x.row(10, 0, 0, 0, 0, 0, 0), 1);
    }
}
