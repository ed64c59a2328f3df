/** For each promise of the document: ordinary inputs, its edges, wrong inputs. */
public final class PromiseTest {
    private PromiseTest() {
    }

    public static void main(String[] args) {
        Kit.about("promise 2");
        CraftHouse x = new CraftHouse();
        Kit.due("feed", x.feed(0x123, 2), 2);
        Kit.end();
    }
}
