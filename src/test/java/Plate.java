/** A plate in two widths, with a slot whose ends keep 4 away from the sides of the plate. */
public final class Plate {
    public static void main(String[] args) {
        PartSketch sketch = new PartSketch();
        int corner = sketch.point(0, 0);
        int across = sketch.point(30, 20);
        int slotFrom = sketch.point(5, 5);
        int slotTo = sketch.point(25, 12);

        sketch.wish(2, corner, 0, 0);                      // at its hint
        int width = sketch.wish(0, corner, across, 40);    // 40 apart in x
        sketch.wish(0, corner, slotFrom, 4);
        sketch.wish(0, slotTo, across, 4);
        int fight = sketch.wish(0, corner, across, 50);    // cannot hold with the 40
        System.out.println("freedom " + sketch.freedom());
        System.out.println("broken " + (sketch.state(fight) == PartSketch.BROKEN));
        System.out.println("slot from x " + sketch.x(slotFrom) + " to " + sketch.x(slotTo));

        sketch.setBase(corner, across, 10);
        int slot = sketch.pocket(slotFrom, slotTo, 3, -1); // -1: in the base
        System.out.println("volume " + sketch.volume() + ", price " + sketch.price());

        sketch.tell(1, width, 60);
        System.out.println("other sizes by variant 1: " + sketch.choose(1));
        System.out.println("volume " + sketch.volume() + ", price " + sketch.price());
        System.out.println("typed 50 in place of " + sketch.type(width, 50));
        System.out.println("broken " + (sketch.state(fight) == PartSketch.BROKEN));

        sketch.setBase(corner, across, 3);                 // no higher than the slot is deep
        System.out.println("slot fails " + sketch.fails(slot) + ", volume " + sketch.volume());
    }
}
