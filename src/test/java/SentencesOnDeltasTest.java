/**
 * The sentences of the document on deltas and their operations, one by one: calls at each boundary
 * that a sentence names and on both sides of it. After a refused call all that can be seen is as it was.
 */
public final class SentencesOnDeltasTest {
    private static Trial t;

    public static void main(String[] args) throws Exception {
        t = new Trial("SentencesOnDeltasTest", "A DELTA is a row");
        deltas();
        create();
        set();
        splice();
        objectsOfDeltas();
        createsFirst();
        orderOfObjects();
        orderOnOneObject();
        kindsOfCreated();
        deltaAtFirst();
        t.end("THE DIFFERENCE");
    }

    private static int[] bytes(int... bytes) {
        return bytes;
    }

    private static void deltas() {
        t.part("DELTA");
        t.sentence("A DELTA is a row of OPERATIONS of three codes:");
        t.isRead(Starts.RICH, bytes());
        t.isRead(Starts.RICH, bytes(1, 1, 0), "1 1 0");
        t.isRead(Starts.RICH, bytes(3, 1, 0, 1, 0), "3 1 0 1 0");
        t.isMalformed(Starts.RICH, 4, 1, 0);
        t.isMalformed(Starts.RICH, 4, 1, 0, 1, 0);
        t.isMalformed(Starts.RICH, 255, 1, 0);
        t.isMalformed(Starts.RICH, 129, 1, 0);
        t.isMalformed(Starts.RICH, 4, 1);
        t.isMalformed(Starts.RICH, 4);
        // The code 0 is the end: what stands behind it and the sum is too much.
        t.isMalformed(Starts.RICH, 0, 68);
        t.isMalformed(Starts.RICH, 0, 1, 0);
    }

    private static void create() {
        t.part("CREATE");
        t.sentence("1 CREATE: an object and its kind, 0 RECORD or 1 LIST.");
        t.isRead(Starts.RICH, bytes(1, 7, 0), "1 7 0");
        t.isRead(Starts.RICH, bytes(1, 7, 1), "1 7 1");
        t.isMalformed(Starts.RICH, 1, 7, 2);
        t.isMalformed(Starts.RICH, 1, 7, 128);
        t.isMalformed(Starts.RICH, 1, 7, 255);
        t.isMalformed(Starts.RICH, 1);
        t.given(Starts.RICH);
        t.fed(68, 1, 7);
        t.refused(-4, "decode");
    }

    private static void set() {
        t.part("SET");
        t.sentence("2 SET: an object, a slot, and what the slot holds then: NOTHING, an int, or a reference.");
        t.isRead(Starts.RICH, bytes(2, 1, 0, 0), "2 1 0 0 0");
        t.isRead(Starts.RICH, bytes(2, 1, 2, 1, 7), "2 1 2 1 -4");
        t.isRead(Starts.RICH, bytes(2, 1, 1, 2, 7), "2 1 1 2 7");
        t.isMalformed(Starts.RICH, 2, 1, 3, 0);
        t.isMalformed(Starts.RICH, 2, 1, 255, 0);
        t.isMalformed(Starts.RICH, 2, 1, 0, 3);
        t.isMalformed(Starts.RICH, 2, 1, 0, 3, 7);
        t.isMalformed(Starts.RICH, 2, 1, 0, 255, 7);
        // NOTHING has no content; an int and a reference have one.
        t.isMalformed(Starts.RICH, 2, 1, 0, 0, 7);
        t.isMalformed(Starts.RICH, 2, 1, 0, 2);
        t.given(Starts.RICH);
        t.fed(68, 2, 1, 0, 1);
        t.refused(-4, "decode");
    }

    private static void splice() {
        t.part("SPLICE");
        t.sentence("3 SPLICE: an object, a place AT, a number DELETES, and 0 to 6 ints that are INSERTED; at + deletes is"
            + " at most 6, and deletes and the number of inserted ints are not both 0.");
        t.isRead(Starts.RICH, bytes(3, 1, 0, 1, 0), "3 1 0 1 0");
        t.isRead(Starts.RICH, bytes(3, 1, 0, 0, 1, 2), "3 1 0 0 1 1");
        t.isRead(Starts.RICH, bytes(3, 1, 0, 0, 5, 2, 4, 6, 8, 10), "3 1 0 0 5 1 2 3 4 5");
        t.isRead(Starts.RICH, bytes(3, 1, 0, 0, 6, 2, 4, 6, 8, 10, 12), "3 1 0 0 6 1 2 3 4 5 6");
        t.isMalformed(Starts.RICH, 3, 1, 0, 0, 7, 2, 4, 6, 8, 10, 12, 14);
        t.isMalformed(Starts.RICH, 3, 1, 0, 0, 255, 2, 4, 6, 8, 10, 12, 14);
        t.isMalformed(Starts.RICH, 3, 1, 0, 0, 6, 2, 4, 6, 8, 10);
        t.isMalformed(Starts.RICH, 3, 1, 0, 0, 5, 2, 4, 6, 8, 10, 12);
        for (int at = 0; at <= 6; at++) {
            int most = 6 - at;
            t.isRead(Starts.RICH, bytes(3, 1, at, most, 1, 2), "3 1 " + at + " " + most + " 1 1");
            t.isMalformed(Starts.RICH, 3, 1, at, most + 1, 1, 2);
            t.isMalformed(Starts.RICH, 3, 1, at, 0, 0);
        }
        t.isRead(Starts.RICH, bytes(3, 1, 5, 0, 1, 2), "3 1 5 0 1 1");
        t.isMalformed(Starts.RICH, 3, 1, 7, 0, 1, 2);
        t.isMalformed(Starts.RICH, 3, 1, 0, 255, 1, 2);
        t.isMalformed(Starts.RICH, 3, 1, 255, 0, 1, 2);
        // No wrap-around: each of these sums is 0 or 1 modulo 256.
        t.isMalformed(Starts.RICH, 3, 1, 255, 1, 1, 2);
        t.isMalformed(Starts.RICH, 3, 1, 1, 255, 1, 2);
        t.isMalformed(Starts.RICH, 3, 1, 128, 129, 1, 2);
    }

    private static void objectsOfDeltas() {
        t.part("DELTA");
        t.sentence("All objects in it (those referred to, too) are 0 .. 15.");
        t.isRead(Starts.RICH, bytes(1, 15, 0), "1 15 0");
        t.isRead(Starts.RICH, bytes(2, 0, 0, 0), "2 0 0 0 0");
        t.isRead(Starts.RICH, bytes(2, 15, 0, 0), "2 15 0 0 0");
        t.isRead(Starts.RICH, bytes(3, 0, 0, 1, 0), "3 0 0 1 0");
        t.isRead(Starts.RICH, bytes(3, 15, 0, 1, 0), "3 15 0 1 0");
        t.isRead(Starts.RICH, bytes(2, 0, 0, 2, 0), "2 0 0 2 0");
        t.isRead(Starts.RICH, bytes(2, 0, 0, 2, 15), "2 0 0 2 15");
        for (int o : new int[] {16, 17, 128, 255}) {
            t.isMalformed(Starts.RICH, 1, o, 0);
            t.isMalformed(Starts.RICH, 2, o, 0, 0);
            t.isMalformed(Starts.RICH, 3, o, 0, 1, 0);
            t.isMalformed(Starts.RICH, 2, 0, 0, 2, o);
            t.isMalformed(Starts.RICH, 1, o);
            t.isMalformed(Starts.RICH, 3, o);
        }
    }

    private static void createsFirst() {
        t.part("DELTA");
        t.sentence("All CREATEs come first, with rising objects, none of them 0.");
        t.isRead(Starts.RICH, bytes(1, 1, 0), "1 1 0");
        t.isMalformed(Starts.RICH, 1, 0, 0);
        t.isMalformed(Starts.RICH, 1, 0, 0, 1, 1, 0);
        t.isRead(Starts.RICH, bytes(1, 1, 0, 1, 2, 1), "1 1 0", "1 2 1");
        t.isRead(Starts.RICH, bytes(1, 1, 0, 1, 15, 1), "1 1 0", "1 15 1");
        t.isMalformed(Starts.RICH, 1, 2, 0, 1, 2, 0);
        t.isMalformed(Starts.RICH, 1, 2, 0, 1, 1, 0);
        t.isRead(Starts.RICH, bytes(1, 2, 0, 2, 1, 0, 0), "1 2 0", "2 1 0 0 0");
        t.isMalformed(Starts.RICH, 2, 1, 0, 0, 1, 2, 0);
        t.isMalformed(Starts.RICH, 3, 1, 0, 1, 0, 1, 2, 0);
        t.isMalformed(Starts.RICH, 1, 1, 0, 2, 1, 0, 0, 1, 2, 0);
        // All the objects that can be created.
        int[] all = new int[45];
        String[] operations = new String[15];
        for (int o = 1; o < 16; o++) {
            all[3 * o - 3] = 1;
            all[3 * o - 2] = o;
            all[3 * o - 1] = o % 2;
            operations[o - 1] = "1 " + o + " " + o % 2;
        }
        t.isRead(Starts.RICH, all, operations);
    }

    private static void orderOfObjects() {
        t.part("DELTA");
        t.sentence("Then come the others, with objects that do not fall;");
        t.isRead(Starts.RICH, bytes(2, 1, 0, 0, 2, 1, 1, 0), "2 1 0 0 0", "2 1 1 0 0");
        t.isRead(Starts.RICH, bytes(2, 1, 1, 0, 2, 2, 0, 0), "2 1 1 0 0", "2 2 0 0 0");
        t.isMalformed(Starts.RICH, 2, 2, 0, 0, 2, 1, 1, 0);
        t.isRead(Starts.RICH, bytes(3, 1, 2, 1, 0, 3, 2, 0, 1, 0), "3 1 2 1 0", "3 2 0 1 0");
        t.isMalformed(Starts.RICH, 3, 2, 0, 1, 0, 3, 1, 2, 1, 0);
        t.isRead(Starts.RICH, bytes(3, 1, 0, 1, 0, 2, 2, 0, 0, 3, 3, 0, 1, 0), "3 1 0 1 0", "2 2 0 0 0", "3 3 0 1 0");
        t.isMalformed(Starts.RICH, 3, 2, 0, 1, 0, 2, 1, 1, 0);
        t.isMalformed(Starts.RICH, 2, 2, 0, 0, 3, 1, 1, 1, 0);
        // CREATEs have an order of their own: their objects may be greater.
        t.isRead(Starts.RICH, bytes(1, 15, 0, 2, 0, 0, 0, 2, 15, 0, 0), "1 15 0", "2 0 0 0 0", "2 15 0 0 0");
    }

    private static void orderOnOneObject() {
        t.part("DELTA");
        t.sentence("those with the same object are all SETs, with rising slots, or all SPLICEs, each of which has an at"
            + " greater than at plus deletes of the one before.");
        t.isRead(Starts.RICH, bytes(2, 1, 0, 0, 2, 1, 1, 0, 2, 1, 2, 0), "2 1 0 0 0", "2 1 1 0 0", "2 1 2 0 0");
        t.isRead(Starts.RICH, bytes(2, 1, 0, 0, 2, 1, 2, 0), "2 1 0 0 0", "2 1 2 0 0");
        t.isMalformed(Starts.RICH, 2, 1, 1, 0, 2, 1, 1, 0);
        t.isMalformed(Starts.RICH, 2, 1, 1, 0, 2, 1, 1, 2, 3);
        t.isMalformed(Starts.RICH, 2, 1, 1, 0, 2, 1, 0, 0);
        t.isMalformed(Starts.RICH, 2, 1, 0, 0, 3, 1, 1, 1, 0);
        t.isMalformed(Starts.RICH, 3, 1, 0, 1, 0, 2, 1, 2, 0);
        // Without deletes, the next place; with two, at 1, not before place 4.
        t.isRead(Starts.RICH, bytes(3, 1, 0, 0, 1, 2, 3, 1, 1, 0, 1, 2), "3 1 0 0 1 1", "3 1 1 0 1 1");
        t.isMalformed(Starts.RICH, 3, 1, 1, 0, 1, 2, 3, 1, 1, 0, 1, 2);
        t.isMalformed(Starts.RICH, 3, 1, 1, 0, 1, 2, 3, 1, 0, 0, 1, 2);
        t.isRead(Starts.RICH, bytes(3, 1, 1, 2, 0, 3, 1, 4, 1, 0), "3 1 1 2 0", "3 1 4 1 0");
        t.isMalformed(Starts.RICH, 3, 1, 1, 2, 0, 3, 1, 3, 1, 0);
        t.isMalformed(Starts.RICH, 3, 1, 1, 2, 0, 3, 1, 2, 1, 0);
        t.isMalformed(Starts.RICH, 3, 1, 1, 2, 0, 3, 1, 0, 0, 1, 2);
        t.isRead(Starts.RICH, bytes(3, 1, 0, 5, 0, 3, 1, 6, 0, 1, 2), "3 1 0 5 0", "3 1 6 0 1 1");
        t.isMalformed(Starts.RICH, 3, 1, 0, 6, 0, 3, 1, 6, 0, 1, 2);
        // What the one before inserts does not count, and the next object begins anew.
        t.isRead(Starts.RICH, bytes(3, 1, 0, 0, 3, 2, 2, 2, 3, 1, 1, 1, 0), "3 1 0 0 3 1 1 1", "3 1 1 1 0");
        t.isRead(Starts.RICH, bytes(3, 1, 0, 6, 0, 3, 2, 0, 6, 0), "3 1 0 6 0", "3 2 0 6 0");
        t.isRead(Starts.RICH, bytes(2, 1, 2, 0, 2, 2, 2, 0), "2 1 2 0 0", "2 2 2 0 0");
        // As many of each as one object can have.
        int[] all = new int[7 * 6];
        String[] operations = new String[7];
        for (int at = 0; at <= 6; at++) {
            System.arraycopy(bytes(3, 1, at, 0, 1, 2), 0, all, 6 * at, 6);
            operations[at] = "3 1 " + at + " 0 1 1";
        }
        t.isRead(Starts.RICH, all, operations);
    }

    private static void kindsOfCreated() {
        t.part("DELTA");
        t.sentence("An object that is created has no SETs when it is a LIST and no SPLICEs when it is a RECORD.");
        t.isRead(Starts.RICH, bytes(1, 7, 0, 2, 7, 0, 0), "1 7 0", "2 7 0 0 0");
        t.isMalformed(Starts.RICH, 1, 7, 1, 2, 7, 0, 0);
        t.isRead(Starts.RICH, bytes(1, 7, 1, 3, 7, 0, 0, 1, 2), "1 7 1", "3 7 0 0 1 1");
        t.isMalformed(Starts.RICH, 1, 7, 0, 3, 7, 0, 0, 1, 2);
        // The first and the last of several that are created, and neighbours of theirs.
        t.isMalformed(Starts.RICH, 1, 5, 1, 1, 7, 0, 1, 15, 0, 2, 5, 0, 0);
        t.isMalformed(Starts.RICH, 1, 5, 1, 1, 7, 0, 1, 15, 0, 3, 15, 0, 1, 0);
        t.isMalformed(Starts.RICH, 1, 5, 1, 1, 7, 0, 1, 15, 1, 2, 0, 0, 0, 2, 15, 0, 0);
        t.isRead(Starts.RICH, bytes(1, 5, 1, 1, 7, 1, 2, 4, 0, 0, 2, 6, 0, 0, 2, 8, 0, 0),
            "1 5 1", "1 7 1", "2 4 0 0 0", "2 6 0 0 0", "2 8 0 0 0");
        t.isRead(Starts.RICH, bytes(1, 5, 0, 3, 4, 0, 1, 0, 3, 6, 0, 1, 0), "1 5 0", "3 4 0 1 0", "3 6 0 1 0");
        t.isRead(Starts.RICH, bytes(1, 5, 0, 1, 7, 1), "1 5 0", "1 7 1");
    }

    private static void deltaAtFirst() {
        t.part("DELTA");
        t.sentence("THE DELTA that there is has no operations at first.");
        t.isDelta();
        t.is(0, "snapshot");
        t.is(1, "apply 0");
        t.is(true, "same 0 1");
        t.is(3, "encode");
        t.isDraft(68, 0, 68);
    }
}
