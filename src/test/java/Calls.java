import java.lang.reflect.InvocationTargetException;
import java.util.Arrays;

/** The calls of the face by their names, and what each of their numbers tells. */
final class Calls {
    /**
     * Behind each name, a letter for each number: s a slot, k a key, h a hash, n something else. With each
     * number 0, a whole key and rows of some bytes none of these calls throws.
     */
    static final String[] ALL = {
        "load sn", "size s", "octet sn", "cut snns", "join sss", "change snn", "calc nssss", "compare ss", "bits s",
        "probable s", "next ss", "digest hss", "mask hsns", "key sss", "open ss", "part kns", "turn knss",
        "hide khssss", "show khsss", "fill ksss", "empty kss", "sign khss", "prove khss", "salt khsss", "taste khssn"
    };

    private Calls() {
    }

    static String name(String call) {
        return call.substring(0, call.indexOf(' '));
    }

    static String kinds(String call) {
        return call.substring(call.indexOf(' ') + 1);
    }

    /** What the call answers (a boolean as 1 or 0, nothing as 0); what it throws comes through. */
    static long run(SealHouse house, String name, int... numbers) {
        Class<?>[] types = new Class<?>[numbers.length];
        Arrays.fill(types, int.class);
        try {
            Object answer = SealHouse.class.getMethod(name, types)
                    .invoke(house, Arrays.stream(numbers).boxed().toArray());
            if (answer instanceof Boolean held) {
                return held ? 1 : 0;
            }
            return answer instanceof Integer number ? number : 0;
        } catch (InvocationTargetException thrown) {
            if (thrown.getCause() instanceof RuntimeException cause) {
                throw cause;
            }
            throw new IllegalStateException(thrown);
        } catch (ReflectiveOperationException none) {
            throw new IllegalStateException(none);
        }
    }
}
