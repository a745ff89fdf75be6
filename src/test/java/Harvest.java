/** One field, one combine, one truck and one elevator, from the first cut to what is owed. */
public final class Harvest {
    public static void main(String[] args) {
        WheatRun land = new WheatRun();
        int field = land.field(0, 40, 100, 50, 20);            // farmer, mile, acres, bushels an acre, landlord's share
        int combine = land.combine(0, 8);                      // mile, pace
        int truck = land.truck(20);                            // mile
        int elevator = land.elevator(60, 5000, 7, 19, 13, 16); // mile, room, open from and to, least and greatest damp
        land.crop(field, 90, 15);                              // ripe, damp

        land.cut(combine, field);                              // nobody moves yet: that takes hours
        land.fetch(truck, combine);
        land.pass(9, 25, 60, 0);                               // hours, and the warmth, air and rain of each
        land.haul(truck, elevator);
        int tickets = land.pass(2, 25, 60, 0);

        System.out.println("acres cut: " + land.ofField(field, 3));
        System.out.println("tickets: " + tickets + ", the first of " + land.ofTicket(0, 1)
                + " bushels, worth " + land.ofTicket(0, 6));
        System.out.println("owed: " + land.owed(0, false) + " to the farmer, " + land.owed(0, true) + " to the landlord");

        land.fetch(truck, combine);
        System.out.println("acres left: " + land.many(2) + ", mean damp " + land.meanDamp());
        System.out.println("next field in 12 hours of the same: " + land.nextField(combine, 12, 25, 60));
        try {
            land.fetch(truck, combine + 1);
        } catch (IndexOutOfBoundsException e) {
            System.out.println("there is no second combine, and nothing has changed");
        }
    }
}
