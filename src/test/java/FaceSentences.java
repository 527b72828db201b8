import java.lang.reflect.Modifier;

/** What the document says ahead of its Terms, and of the constants. (RulesTest asks for the rest of the public face.) */
final class FaceSentences extends Due {
    @Sentence(in = "What it is", says = "An object is used for at most 512 calls after it has been made; what later calls answer is free.")
    static void face_anObjectIsGoodFor512Calls() {
        GivenUp x = new GivenUp();
        for (int call = 1; call <= 511; call++) {
            same(x.week(), call);
        }
        same(x.week(), 512);
        // With a VALLEY, and calls of many kinds.
        GivenUp y = new GivenUp();
        Check.valley(y, "suitor s;thing a of s worth 1;fair 1;");
        for (int call = 4; call <= 510; call++) {
            same(y.suitor(0, 3), 1);
        }
        same(y.give(0), 1);
        same(y.told(8), 1);
    }

    @Sentence(in = "The public face", says = "The constants: `NONE = -1`: None.")
    static void face_noneIsMinus1() {
        same(GivenUp.NONE, -1);
        same(new GivenUp().told(-1), -1);
        same(new GivenUp().fault(0), -1);
    }

    @Sentence(in = "The public face", says = "The constants: `NONE")
    static void face_aFinalClassWithOneConstructorAndOneConstant() {
        same(Modifier.isFinal(GivenUp.class.getModifiers()) && Modifier.isPublic(GivenUp.class.getModifiers()) ? 1 : 0, 1);
        same(GivenUp.class.getConstructors().length, 1);
        same(GivenUp.class.getConstructors()[0].getParameterCount(), 0);
        same(GivenUp.class.getFields().length, 1);
    }
}
