/** Objects stand each for itself, whatever is called of the other one between. */
public final class ObjectsTest {
    private static int wrong;

    public static void main(String[] args) {
        Hashladder one = new Hashladder();
        one.put(0, 5, 50);
        one.walk(0, 1);
        one.hold(0, 1);
        one.knock();
        Hashladder other = new Hashladder();
        long ofNew = other.digest();
        need("a new object has the pairs of another", other.house(0) == 0 && other.house(1) == 4);
        need("a new object has the walks of another", other.hasStep(0) == -1 && other.house(2) == 0);
        need("a new object has the views of another", other.viewSize(0) == -1 && other.house(3) == 0);
        need("a new object has the knocks of another", other.house(4) == 0 && other.knock() == 1);

        other.put(0, 5, 51);
        other.put(0, 6, 60);
        other.walk(0, 0);
        need("another's text comes", one.text(0).equals("5=50") && other.text(0).equals("5=51 6=60"));
        need("another's walk goes on", one.step(0) == 1 && other.step(0) == 1 && other.hasStep(0) == 1);
        need("another's walk ends", one.walked(0) == 50 && other.step(0) == 2 && other.walked(0) == 11);
        need("another's sums come between", one.sum(0, 3) == 50 && other.sum(0, 3) == 111 && one.isSound());
        other.renew(0, 0);
        need("another's renew takes the view", one.viewSize(0) == 1 && one.viewSum(0) == 50);
        need("another's renew takes the walk", one.walked(0) == 50 && one.house(2) == 1);
        need("another's knocks count", one.house(4) == 1 && one.knock() == 2 && other.house(4) == 1);
        need("a new object is not as the first one was", new Hashladder().digest() == ofNew);
        System.out.println(wrong + " wrong");
        System.exit(wrong == 0 ? 0 : 1);
    }

    private static void need(String fault, boolean isWell) {
        if (!isWell) {
            wrong++;
            System.out.println(fault);
        }
    }
}
