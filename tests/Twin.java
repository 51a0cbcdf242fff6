/**
 * Two objects that are told the same. One of them is asked for something that it refuses: whatever both are asked
 * behind that, they must answer alike.
 */
final class Twin {
    interface Told {
        void to(HillBoxes x);
    }

    interface Asked {
        long of(HillBoxes x);
    }

    interface Seen {
        long[] of(HillBoxes x);
    }

    private Twin() {
    }

    static void refuses(String what, Told ahead, Asked refused, long due, Seen behind) {
        HillBoxes asked = new HillBoxes();
        HillBoxes spared = new HillBoxes();
        ahead.to(asked);
        ahead.to(spared);
        Due.be(what, refused.of(asked), due);
        Due.row(what + ": what is seen behind it", behind.of(asked), behind.of(spared));
    }
}
