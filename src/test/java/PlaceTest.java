/** Promises 5 and 6: place, face. */
public final class PlaceTest {
    public static void main(String[] args) {
        heights();
        faces();
        wrongInputs();
        Checks.finish();
    }

    private static RafterPlaces mixed() {
        RafterPlaces roof = new RafterPlaces();
        roof.outline(100, 60);
        roof.slope(0, 3, 4);
        roof.slope(1, 2, 1);
        roof.slope(2, 7, 5);
        roof.slope(3, 5, 6);
        return roof;
    }

    private static void heights() {
        RafterPlaces roof = mixed();
        Checks.compare("plane of 0", Checks.place(roof, 50, 6), "9/2");
        Checks.compare("plane of 1", Checks.place(roof, 97, 30), "6/1");
        Checks.compare("plane of 2", Checks.place(roof, 50, 57), "21/5");
        Checks.compare("plane of 3", Checks.place(roof, 10, 30), "25/3");
        Checks.compare("corner 0, 0", Checks.place(roof, 0, 0), "0/1");
        Checks.compare("corner 100, 60", Checks.place(roof, 100, 60), "0/1");
        Checks.compare("on the side x = 0", Checks.place(roof, 0, 30), "0/1");
        roof.gable(3);
        Checks.compare("on the gable x = 0", Checks.place(roof, 0, 30), "45/2");
        roof.gable(0);
        roof.gable(2);
        Checks.compare("one plane alone", Checks.place(roof, 0, 0), "200/1");
    }

    private static void faces() {
        RafterPlaces roof = mixed();
        Checks.due("face of 0", () -> roof.face(50, 6), 0);
        Checks.due("face of 1", () -> roof.face(97, 30), 1);
        Checks.due("face of 2", () -> roof.face(50, 57), 2);
        Checks.due("face of 3", () -> roof.face(10, 30), 3);
        Checks.due("corner 0, 0", () -> roof.face(0, 0), 0);
        Checks.due("corner 100, 0", () -> roof.face(100, 0), 0);
        Checks.due("corner 100, 60", () -> roof.face(100, 60), 1);
        Checks.due("corner 0, 60", () -> roof.face(0, 60), 2);
        RafterPlaces even = new RafterPlaces();
        Checks.due("all as high", () -> even.face(300, 300), 0);
        even.gable(0);
        Checks.due("no gable is a face", () -> even.face(0, 0), 3);
        Checks.due("1 and 2 as high", () -> even.face(900, 500), 1);
        Checks.due("2 and 3 as high", () -> even.face(100, 500), 2);
        even.gable(1);
        even.gable(2);
        Checks.due("3 alone", () -> even.face(1000, 600), 3);
    }

    private static void wrongInputs() {
        RafterPlaces roof = mixed();
        long[][] outside = {{-1, 0}, {0, -1}, {101, 0}, {0, 61}, {Long.MIN_VALUE, 1},
            {1, Long.MAX_VALUE}, {1L << 32, 1}};
        for (long[] at : outside) {
            Checks.raises("place " + at[0] + ", " + at[1], () -> roof.place(at[0], at[1], 0),
                    IllegalArgumentException.class);
            Checks.raises("face " + at[0] + ", " + at[1], () -> roof.face(at[0], at[1]),
                    IllegalArgumentException.class);
            Checks.raises("place, part too", () -> roof.place(at[0], at[1], 2),
                    ArrayIndexOutOfBoundsException.class);
        }
        for (int part : new int[] {Integer.MIN_VALUE, -1, 2, Integer.MAX_VALUE}) {
            Checks.raises("part " + part, () -> roof.place(1, 1, part),
                    ArrayIndexOutOfBoundsException.class);
        }
        Checks.compare("nothing has changed", Checks.state(roof), Checks.state(mixed()));
    }
}
