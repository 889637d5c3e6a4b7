/** The sample of README.md answers as README.md says. */
public final class ReadmeTest {
    private ReadmeTest() {
    }

    public static void main(String[] args) {
        Check.about("README: the sample");
        LampLighters street = new LampLighters();
        Check.same("hire", street.hire(10), 0);
        street.feed(0x6c616d70, 0x20612061, 0x74203220, 0x686f6c64, 0x7320393b);
        street.feed(0x20726f75, 0x6e642072, 0x28676f20, 0x613b206c, 0x69676874);
        street.feed(0x3b292020, 0x20202020, 0x20202020, 0x20202020, 0x20202020);
        street.trim(42);
        Check.same("teach", street.teach(), 0);
        Check.same("bestRound", street.bestRound(0, 5), 0);
        street.assign(0, 0);
        Check.same("quartersUntilLit", street.quartersUntilLit(0), 3);
        Check.same("passQuarters", street.passQuarters(3), 2);
        Check.same("isLit", street.isLit(0), true);
        Check.same("douseLamp", street.douseLamp(0), true);
        Check.same("darkAfter", street.darkAfter(5), 5);
        Check.end();
    }
}
