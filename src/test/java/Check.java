/** Counts and prints what is not as due. */
final class Check {
    interface Call {
        Object run();
    }

    private int wrong = 0;
    private int looked = 0;
    private String place = "";

    void at(String newPlace) {
        place = newPlace;
    }

    void equal(String what, Object got, Object want) {
        looked++;
        if (!want.equals(got)) {
            wrong++;
            System.out.println(place + ": " + what + " answered " + got + ", due is " + want);
        }
    }

    /** The class must be the named one itself: a class below it is thrown by the machine. */
    void fails(String what, Class<?> due, Call call) {
        Object got;
        try {
            got = call.run();
        } catch (RuntimeException e) {
            got = e.getClass();
        }
        equal(what, got, due);
    }

    void finish(String name) {
        System.out.println(name + ": " + looked + " looked at, " + wrong + " wrong");
        if (wrong > 0) {
            System.exit(1);
        }
    }
}
