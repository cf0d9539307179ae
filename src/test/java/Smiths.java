import java.util.List;

/** The KINDS of BODIES as classes of Java's own, for the plain model. */
final class Smiths {
    static final List<Class<? extends Smith>> KINDS = List.of(Smith.class, Lad.class, Tongs.class, Anvil.class,
        Curate.class, Don.class, Kicker.class, Sister.class);

    private Smiths() {
    }

    static Smith make(int kind, int n, List<Integer> ran) {
        Smith s = kind == 0 ? new Smith() : kind == 1 ? new Lad() : kind == 2 ? new Tongs() : kind == 3 ? new Anvil()
            : kind == 4 ? new Curate() : kind == 5 ? new Don() : kind == 6 ? new Kicker() : new Sister();
        s.n = n;
        s.ran = ran;
        return s;
    }

    interface Noted {
        int number();

        void began(int body);
    }

    interface Heats extends Noted {
        default int heats(int x) {
            began(1);
            return x + number();
        }
    }

    interface Tells extends Noted {
        int draws(int x);

        int nails(int x);

        default int tells(int x) {
            began(2);
            return draws(x) - nails(1);
        }
    }

    static class Smith implements Heats, Tells {
        int n;
        List<Integer> ran;

        @Override public int number() {
            return n;
        }

        @Override public void began(int body) {
            ran.add(body);
        }

        @Override public int draws(int x) {
            began(10);
            return heats(x) * 2;
        }

        @Override public int nails(int x) {
            began(11);
            return x ^ n;
        }
    }

    static class Lad extends Smith {
        @Override public int heats(int x) {
            began(20);
            return super.heats(x) + 3;
        }
    }

    static class Tongs extends Smith {
        @Override public int draws(int x) {
            began(30);
            return -super.draws(x);
        }
    }

    static class Anvil extends Tongs {
        @Override public int nails(int x) {
            began(40);
            return super.nails(x) * 3;
        }

        @Override public int draws(int x) {
            began(41);
            return super.draws(x + 1);
        }
    }

    static class Curate extends Lad {
        @Override public int nails(int x) {
            began(50);
            return super.nails(x) - heats(2);
        }
    }

    static class Don extends Anvil {
        @Override public int tells(int x) {
            began(60);
            return super.tells(x) ^ 5;
        }
    }

    static class Kicker extends Smith {
        @Override public int heats(int x) {
            began(70);
            return super.heats(x) * 2;
        }
    }

    static class Sister extends Curate {
        @Override public int draws(int x) {
            began(80);
            return super.draws(x) + nails(2);
        }

        @Override public int tells(int x) {
            began(81);
            return super.tells(x) - 1;
        }
    }
}
