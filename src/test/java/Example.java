public final class Example {
    public static void main(String[] args) {
        BandMill mill = new BandMill();
        int small = mill.coding(1, 256, 0, 0);                  // one byte a number, 0 .. 255
        int wide = mill.coding(5, 64, 1, 0);                    // one to five bytes, all numbers
        int mixed = mill.run(1, wide, small);                   // the first number wide, the others small
        int tokens = mill.popular(3, wide, small, wide);        // up to three favourites, told by tokens

        fill(mill, 70000, 70000, 5, 70000, 70000);
        System.out.println("small takes " + mill.cost(small));  // NONE: 70000 is too great for it
        System.out.println("wide takes " + mill.cost(wide));
        int way = mill.best(small, tokens);
        System.out.println("way " + way + " is the best and writes " + mill.pack(way));

        fill(mill, 70000, 1, 2, 200);
        System.out.println("the best run takes " + mill.bestRun());
        System.out.println("its n is " + mill.chosen(0) + ", its ways " + mill.chosen(1) + " and " + mill.chosen(2));
        System.out.println("mixed is such a run and writes " + mill.pack(mixed));
        System.out.println("the tape has " + mill.about(2) + " bytes, the first is " + mill.tape(0));

        mill.clear();
        System.out.println("reading five numbers takes " + mill.unpack(tokens, 5) + ", the third is " + mill.row(2));
        System.out.println("reading four numbers takes " + mill.unpack(mixed, 4) + ", the last is " + mill.row(3));
        System.out.println("reading one more answers " + mill.unpack(wide, 1) + ", at byte " + mill.place());

        mill.end(0);
        mill.feed(0xC0000001);                                  // the bytes 192, 0, 0, 1
        System.out.println("byte 0 was to be read next: " + mill.seek(1));
        System.out.println("two bytes from there: " + mill.unpack(small, 2) + ", now at " + mill.about(3));
        System.out.println("H of wide is " + mill.way(wide, 1) + ", the depth of tokens " + mill.way(tokens, 4));
        try {
            mill.cost(4);
        } catch (IllegalArgumentException e) {
            System.out.println("there is no way 4");
        }
    }

    private static void fill(BandMill mill, int... numbers) {
        mill.clear();
        for (int v : numbers) {
            mill.number(v);
        }
    }
}
