/** What the tests share: counting wrong answers, and telling LIES by feed() and lies(). */
final class Check {
    interface Call {
        long answer();
    }

    private int wrong;
    private int asked;

    long asked() {
        return asked;
    }

    void same(String what, long got, long due) {
        asked++;
        if (got != due) {
            wrong++;
            System.out.println(what + " answered " + got + ", due is " + due);
        }
    }

    void holds(String what, boolean got) {
        same(what, got ? 1 : 0, 1);
    }

    void value(String what, int got, float due) {
        same(what, got, Float.floatToRawIntBits(due));
    }

    void noSuch(String what, Call call) {
        same(what + " (1 NoSuchElementException, 2 IllegalArgumentException)", thrown(call), 1);
    }

    void illegal(String what, Call call) {
        same(what + " (1 NoSuchElementException, 2 IllegalArgumentException)", thrown(call), 2);
    }

    static int thrown(Call call) {
        try {
            call.answer();
            return 0;
        } catch (java.util.NoSuchElementException e) {
            return 1;
        } catch (IllegalArgumentException e) {
            return 2;
        }
    }

    /** Puts a text on the TAPE; zeros behind it, up to the next 20 bytes. */
    static void feed(OralOrders x, String text) {
        for (int i = 0; i < text.length(); i += 20) {
            int[] five = new int[5];
            for (int k = 0; k < 20; k++) {
                int sign = i + k < text.length() ? text.charAt(i + k) : 0;
                five[k / 4] = five[k / 4] << 8 | sign;
            }
            x.feed(five[0], five[1], five[2], five[3], five[4]);
        }
    }

    static int lies(OralOrders x, String text) {
        feed(x, text);
        return x.lies(text.length());
    }

    /** The same object with these LIES, which have no FAULT. */
    static OralOrders lying(OralOrders x, String text) {
        if (lies(x, text) < 0) {
            throw new IllegalArgumentException("a FAULT at " + x.fault() + " of " + text);
        }
        return x;
    }

    /** A group whose MEMBERS have these whole numbers. */
    static OralOrders group(int t, int... values) {
        OralOrders x = new OralOrders();
        x.group(values.length, t);
        for (int i = 0; i < values.length; i++) {
            x.value(i, values[i], 1);
        }
        return x;
    }

    void end() {
        System.out.println(asked + " answers looked at, " + wrong + " wrong");
        if (wrong != 0 || asked == 0) {
            System.exit(1);
        }
    }
}
