/** What all tests share: answers are compared with those that are due, and the differences are counted. */
final class Checks {
    private int asked = 0;
    private int wrong = 0;
    private String subject = "";

    /** What the answers from here on are about. */
    void about(String what) {
        subject = what;
    }

    void due(String call, long want, long got) {
        asked++;
        if (want != got) {
            wrong++;
            if (wrong <= 40) {
                String place = subject.isEmpty() ? "" : "[" + subject + "] ";
                System.out.println(place + call + " answered " + got + ", due is " + want);
            }
        }
    }

    int wrong() {
        return wrong;
    }

    void close(String name) {
        System.out.println(name + ": " + asked + " answers, " + wrong + " not as due");
        if (wrong != 0) {
            System.exit(1);
        }
    }
}
