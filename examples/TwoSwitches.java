/** Two switches, a wire between them, and a house at each. */
public final class TwoSwitches {
    public static void main(String[] args) {
        SwitchFloor floor = new SwitchFloor();
        floor.wire(0, 1, 1, 2, 5);
        floor.house(0, 0, 0);
        floor.house(1, 0, 1);
        System.out.println("ahead of the first beat: " + floor.send(0, 1, 0, 0));
        floor.beat(3);
        System.out.println("behind the third: " + floor.send(0, 1, 0, 0));
        System.out.println("the way back: " + floor.walk(1, 0) + " switches");
    }
}
