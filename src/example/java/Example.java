/** A late lorry makes another one wait; README.md shows this program and what it prints. */
public final class Example {
    public static void main(String[] args) {
        Crossdockery dock = new Crossdockery();
        int brings = dock.addLorry(true, 5, 10);          // planned for the minute 5, 10 cents for a minute
        int takes = dock.addLorry(false, 0, 7);
        int goods = dock.addTransfer(brings, takes, 6);   // 6 units from the one to the other
        dock.planDoor(brings, 0);
        dock.planDoor(takes, 2);
        dock.moveGang(dock.addGang(3, 0, 60), 0);         // 3 units a minute, from the minute 0 up to 60
        dock.moveGang(dock.addGang(2, 0, 60), 2);
        System.out.println("ways " + dock.ways() + ", at best " + dock.leastWays());

        dock.arrive(takes);
        dock.pass(8);                                     // five minutes are free, three are owed
        System.out.println("minute " + dock.now() + ": lorry " + dock.debtor(takes) + " owes the last minute, "
                + dock.invoice(brings, takes) + " cents in all");

        dock.arrive(brings);
        int gone = dock.pass(6);                          // what is unloaded at door 0 is on its way to door 2
        System.out.println("minute " + dock.now() + ": " + gone + " lorries left, in " + dock.leftAt(brings)
                + " and " + dock.leftAt(takes) + ", with " + dock.loaded(goods) + " units");
        System.out.println("the dock owes " + dock.invoice(Crossdockery.NONE, takes) + " cents, lorry " + takes
                + " waited " + dock.waited(takes) + " minutes, " + dock.ownMinutes(takes) + " of them its own");

        try {
            dock.arrive(brings);
        } catch (IllegalStateException e) {
            System.out.println("refused, and nothing changed: " + e.getMessage());
        }
    }
}
