/** Prints every answer that is not the one that is due, and ends with exit code 1 if there was one. */
final class Due {
    private int wrong = 0;
    private int asked = 0;
    private String place = "";

    void at(String newPlace) {
        place = newPlace;
    }

    void is(Object call, int got, int want) {
        asked++;
        if (got != want) {
            tell(call + " answered " + got + ", due is " + want);
        }
    }

    void is(Object call, boolean got, boolean want) {
        asked++;
        if (got != want) {
            tell(call + " answered " + got + ", due is " + want);
        }
    }

    void is(Object call, String got, String want) {
        asked++;
        if (!got.equals(want)) {
            tell(call + " answered " + got + ", due is " + want);
        }
    }

    void tell(String fault) {
        wrong++;
        System.out.println(place + ": " + fault);
    }

    boolean allRight() {
        return wrong == 0;
    }

    void end() {
        System.out.println(asked + " answers, " + wrong + " wrong");
        if (wrong != 0 || asked == 0) {
            System.exit(1);
        }
    }
}
