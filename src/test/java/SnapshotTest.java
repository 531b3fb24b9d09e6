/** The boundary cases of promises 56 and 57 and of section 6: what a snapshot contains and what not. */
public final class SnapshotTest {
    private static final Checks CHECKS = new Checks("SnapshotTest");
    private static final String OTHER_NET = "hold 99;retry 98;tries 7;expire 96;cancel 95;node zz;node yyyyyy;node c;"
        + "node w;link c zz 77 66 5;link zz yyyyyy 88 55 4;link yyyyyy c 99 44 3;link w c 11 22 33";

    private SnapshotTest() {
    }

    public static void main(String[] args) {
        slots();
        answersAreTimes();
        newObjectIsSaved();
        everyChangeIsUndone();
        otherNetIsUndone();
        goesOnAsBefore();
        fewerThanBefore();
        copiesOnly();
        savedOver();
        twoSlots();
        bufferIsNotSaved();
        resultOfLoadIsNotSaved();
        snapshotsAreNotSaved();
        loadLeavesSnapshots();
        loadAfterPredictions();
        CHECKS.end();
    }

    /** What is told of an object that was made in the same way, so as not to use up this one's 512 calls. */
    private static String richState() {
        return Nets.everything(Nets.rich());
    }

    private static void slots() {
        for (int slot : new int[] {-1, 2, 3, Integer.MIN_VALUE, Integer.MAX_VALUE}) {
            PathReservations net = Nets.rich();
            CHECKS.argument("save " + slot, () -> net.saveSnapshot(slot));
            CHECKS.argument("restore " + slot, () -> net.restoreSnapshot(slot));
            CHECKS.equal("nothing was saved in 0", net.restoreSnapshot(0), -1);
            CHECKS.equal("nothing was saved in 1", net.restoreSnapshot(1), -1);
        }
        for (int slot = 0; slot < 2; slot++) {
            PathReservations net = Nets.rich();
            CHECKS.equal("nothing in " + slot, net.restoreSnapshot(slot), -1);
            CHECKS.same("nothing changes", Nets.everything(net), richState());
            net.saveSnapshot(slot);
            CHECKS.equal("the other one is empty", net.restoreSnapshot(1 - slot), -1);
            CHECKS.equal("this one is not", net.restoreSnapshot(slot), 11);
        }
    }

    private static void answersAreTimes() {
        PathReservations net = Nets.triangle();
        CHECKS.equal("saved at 0", net.saveSnapshot(0), 0);
        net.advance(1000);
        CHECKS.equal("saved at 1000", net.saveSnapshot(1), 1000);
        net.advance(7);
        CHECKS.equal("back to 0", net.restoreSnapshot(0), 0);
        CHECKS.equal("saved at 0 again", net.saveSnapshot(0), 0);
        CHECKS.equal("on to 1000", net.restoreSnapshot(1), 1000);
        CHECKS.equal("the time", net.time(), 1000);
    }

    private static void newObjectIsSaved() {
        PathReservations net = new PathReservations();
        CHECKS.equal("no nodes, no links", net.saveSnapshot(0), 0);
        Nets.load(net, OTHER_NET);
        net.request(2, 0, 1, 1);
        net.advance(3);
        CHECKS.equal("back", net.restoreSnapshot(0), 0);
        CHECKS.same("as a new one", Nets.everything(net), Nets.everything(new PathReservations()));
        CHECKS.equal("no nodes", net.nodeCount(), 0);
        CHECKS.equal("no name", Nets.nodeNamed(net, "zz"), -1);
        CHECKS.index("no link", () -> net.linkValue(0, 0));
        CHECKS.index("no request", () -> net.requestValue(0, 0));
        CHECKS.index("no ticket", () -> net.ticketValue(0, 0));
    }

    /** One of many changes; answers false if there is no such one. */
    private static boolean change(PathReservations net, int number) {
        switch (number) {
            case 0: net.advance(1); return true;
            case 1: net.advance(60); return true;
            case 2: net.request(0, 1, 2, 3); return true;
            case 3: net.request(2, 1, 2, 3); return true;
            case 4: net.cancel(3); return true;
            case 5: net.cancel(8); return true;
            case 6: net.extend(6); return true;
            case 7: net.takeDown(0); return true;
            case 8: net.takeDown(1); return true;
            case 9: net.bringUp(2); return true;
            case 10: net.setCapacity(0, 1000); return true;
            case 11: net.setCapacity(2, 0); return true;
            case 12: Nets.load(net, OTHER_NET); return true;
            case 13: Nets.load(net, "node q"); return true;
            default:
                if (number < 19) {
                    net.setSetting(number - 14, 8);
                }
                return number < 19;
        }
    }

    private static void everyChangeIsUndone() {
        String saved = richState();
        boolean more = true;
        for (int number = 0; more; number++) {
            PathReservations net = Nets.rich();
            net.saveSnapshot(number % 2);
            more = change(net, number);
            if (more) {
                CHECKS.equal("restored", net.restoreSnapshot(number % 2), 11);
                CHECKS.same("change " + number + " is undone", Nets.everything(net), saved);
                PathReservations changed = Nets.rich();
                change(changed, number);
                CHECKS.same("change " + number + " is one", Nets.everything(changed).equals(saved), false);
            }
        }
    }

    /** Other numbers stood in every row before. */
    private static void otherNetIsUndone() {
        PathReservations net = Nets.rich();
        net.saveSnapshot(0);
        Nets.load(net, OTHER_NET);
        for (int i = 0; i < 9; i++) {
            net.request(2, i % 2, 2 + i, 77 + i);
            net.advance(2);
        }
        net.takeDown(0);
        CHECKS.equal("restored", net.restoreSnapshot(0), 11);
        CHECKS.same("all is as it was", Nets.everything(net), richState());
        CHECKS.equal("its nodes", Nets.nodeNamed(net, "b"), 1);
        CHECKS.equal("not the others", Nets.nodeNamed(net, "zz"), -1);
    }

    private static void goesOnAsBefore() {
        PathReservations net = Nets.rich();
        PathReservations other = Nets.rich();
        net.saveSnapshot(1);
        net.advance(500);
        Nets.load(net, OTHER_NET);
        net.restoreSnapshot(1);
        for (int ticks : new int[] {1, 2, 3, 5, 40}) {
            net.advance(ticks);
            other.advance(ticks);
            CHECKS.equal("time", net.time(), other.time());
            CHECKS.equal("next event at " + net.time(), net.nextEvent(), other.nextEvent());
            CHECKS.equal("revenue at " + net.time(), net.revenue(), other.revenue());
        }
        CHECKS.same("all goes on as without it", Nets.everything(net), Nets.everything(other));
    }

    /** What was made after the snapshot is gone, and its numbers are given again, to new ones. */
    private static void fewerThanBefore() {
        PathReservations net = Nets.net("tries 1;node a;node b;node c;link a b 9 5 1;link b c 3 7 2");
        net.saveSnapshot(0);
        net.request(0, 2, 4, 50);
        net.advance(1);
        CHECKS.equal("it failed", net.requestValue(0, 4), 4);
        net.request(0, 2, 2, 60);
        net.advance(5);
        net.cancel(1);
        net.restoreSnapshot(0);
        PathReservations fresh = Nets.net("tries 1;node a;node b;node c;link a b 9 5 1;link b c 3 7 2");
        CHECKS.same("as it was", Nets.everything(net), Nets.everything(fresh));
        net.request(2, 0, 1, 1);
        fresh.request(2, 0, 1, 1);
        CHECKS.same("a request without a path", Nets.everything(net), Nets.everything(fresh));
        net.request(1, 2, 1, 1);
        fresh.request(1, 2, 1, 1);
        CHECKS.same("a request with a ticket", Nets.everything(net), Nets.everything(fresh));
        net.advance(4);
        fresh.advance(4);
        CHECKS.same("when it is active", Nets.everything(net), Nets.everything(fresh));
    }

    /** The snapshot is a copy, and so is what is restored. */
    private static void copiesOnly() {
        PathReservations net = Nets.rich();
        net.saveSnapshot(0);
        for (int number : new int[] {0, 4, 7, 10, 14}) {
            change(net, number);
        }
        net.restoreSnapshot(0);
        for (int number : new int[] {1, 5, 9, 11, 15}) {
            change(net, number);
        }
        net.stateAfter(5, 2000);
        net.ticksForNew(0, 2, 1);
        net.restoreSnapshot(0);
        CHECKS.same("restored twice", Nets.everything(net), richState());
    }

    private static void savedOver() {
        PathReservations net = Nets.rich();
        net.saveSnapshot(0);
        net.advance(7);
        CHECKS.equal("saved over it", net.saveSnapshot(0), 18);
        net.advance(7);
        CHECKS.equal("the later one", net.restoreSnapshot(0), 18);
        PathReservations later = Nets.rich();
        later.advance(7);
        CHECKS.same("is there", Nets.everything(net), Nets.everything(later));
        Nets.load(net, "node q");
        CHECKS.equal("a smaller one", net.saveSnapshot(0), 0);
        Nets.load(net, OTHER_NET);
        net.restoreSnapshot(0);
        CHECKS.equal("has one node", net.nodeCount(), 1);
        CHECKS.equal("no links", net.linkCount(), 0);
        CHECKS.equal("no requests", net.requestCount(), 0);
    }

    private static void twoSlots() {
        for (int slot = 0; slot < 2; slot++) {
            PathReservations net = Nets.rich();
            net.saveSnapshot(0);
            changeTwice(net);
            net.saveSnapshot(1);
            net.advance(3);
            CHECKS.equal("the other slot", net.restoreSnapshot(1 - slot), slot == 0 ? 14 : 11);
            net.advance(2);
            CHECKS.equal("slot " + slot, net.restoreSnapshot(slot), slot == 0 ? 11 : 14);
            PathReservations due = Nets.rich();
            if (slot == 1) {
                changeTwice(due);
            }
            CHECKS.same("what was saved in slot " + slot, Nets.everything(net), Nets.everything(due));
        }
    }

    private static void changeTwice(PathReservations net) {
        change(net, 2);
        change(net, 7);
        net.advance(3);
    }

    private static void bufferIsNotSaved() {
        PathReservations net = Nets.rich();
        Nets.write(net, "c");
        net.saveSnapshot(0);
        CHECKS.equal("saving leaves it", net.append(0), 1);
        CHECKS.equal("c", net.nodeNamed(), 2);
        net.restoreSnapshot(0);
        CHECKS.equal("it does not come back", net.append(0), 0);
        Nets.write(net, "node q;node r");
        net.restoreSnapshot(0);
        CHECKS.equal("restoring leaves it", net.append(0), 13);
        CHECKS.equal("to be read", net.load(), 0);
        CHECKS.equal("two nodes", net.nodeCount(), 2);
    }

    private static void resultOfLoadIsNotSaved() {
        String[] texts = {"node a", "x", "hold 0", "node abcdefg", Nets.nodes(12) + ";node m"};
        for (int before = 0; before < texts.length; before++) {
            for (int after = 0; after < texts.length; after++) {
                PathReservations net = new PathReservations();
                Nets.load(net, texts[before]);
                net.saveSnapshot(0);
                CHECKS.equal("saving leaves " + before, net.loadError(), before);
                Nets.load(net, texts[after]);
                net.restoreSnapshot(0);
                CHECKS.equal("restoring leaves " + after, net.loadError(), after);
            }
        }
    }

    private static void snapshotsAreNotSaved() {
        PathReservations net = Nets.triangle();
        net.advance(1);
        net.saveSnapshot(0);
        net.advance(1);
        net.saveSnapshot(1);
        net.advance(1);
        net.restoreSnapshot(0);
        CHECKS.equal("the other one was saved later and stays", net.restoreSnapshot(1), 2);
        net.advance(5);
        net.saveSnapshot(0);
        net.restoreSnapshot(1);
        CHECKS.equal("the first one is the later one now", net.restoreSnapshot(0), 7);
    }

    /** Promise 3: the snapshots stay, whether the text has an error or not. */
    private static void loadLeavesSnapshots() {
        PathReservations net = Nets.rich();
        net.saveSnapshot(0);
        net.advance(1);
        net.saveSnapshot(1);
        Nets.load(net, "hold 0");
        Nets.load(net, OTHER_NET);
        CHECKS.equal("slot 1", net.restoreSnapshot(1), 12);
        CHECKS.equal("slot 0", net.restoreSnapshot(0), 11);
        CHECKS.same("with all in it", Nets.everything(net), richState());
    }

    /** Promise 3: begins anew, whatever was there, was predicted or was read before an error. */
    private static void loadAfterPredictions() {
        PathReservations net = Nets.rich();
        net.activeWithout(0, 3);
        net.greatestNew(0, 2);
        net.stateAfter(6, 4);
        Nets.load(net, Nets.TRIANGLE);
        PathReservations fresh = Nets.triangle();
        CHECKS.same("anew", Nets.everything(net), Nets.everything(fresh));
        CHECKS.equal("nothing happens", net.nextEvent(), -1);
        for (int units = 1; units < 7; units += 2) {
            CHECKS.equal("numbers from 0", net.request(0, 2, units, 9), fresh.request(0, 2, units, 9));
            net.advance(3);
            fresh.advance(3);
        }
        CHECKS.same("new requests are new", Nets.everything(net), Nets.everything(fresh));
        PathReservations wrong = Nets.rich();
        wrong.stateAfter(6, 4);
        Nets.load(wrong, "tries 1;node x;node y;link x y 1 1 1;link y x 0 0 0");
        Nets.load(wrong, Nets.TRIANGLE);
        CHECKS.same("after an error, too", Nets.everything(wrong), Nets.everything(Nets.triangle()));
    }
}
