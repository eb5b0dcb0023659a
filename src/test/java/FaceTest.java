import java.lang.reflect.Field;
import java.lang.reflect.Method;
import java.lang.reflect.Modifier;
import java.util.ArrayList;
import java.util.Arrays;
import java.util.List;
import java.util.TreeSet;
import java.util.regex.Matcher;
import java.util.regex.Pattern;

/** The face of the class, and what of LANGUAGE.md can be seen by reflection. */
public final class FaceTest {
    private static final String[] FACE = {"days(int):int", "voter(int,int,int):int", "move(int,int,int):boolean", "shire(int,int,int):int",
        "send(int,int,int):int", "event(int,int,int,int):boolean", "empty(int,int,int):int", "sealed(int,int):int", "read(int,int):boolean",
        "hand(int,int,boolean):boolean", "booth(int,int):boolean", "feed(int,int,int,int,int):int", "end(int):boolean", "fault():int",
        "law(int,int):int", "lawful(int,int,int):int", "letter(int,int,int):int", "state(int,int):int", "reason(int,int):int",
        "ruled(int,int):int", "first(int,int):int", "doubles(int):int", "many(int,int,int):int", "habit(int,int,int):int", "harshest():int",
        "size(int):boolean", "recheck(int,int,long):int", "wave(int,int,int):int", "press(int):boolean", "printed(int):int", "latest():int",
        "stand(int,int,int):boolean", "road(int,int,int):boolean", "stops(int):boolean", "round(int):int", "route(int,int):int",
        "usual(int,int):int", "ends(int,int):boolean", "late(int):int", "open(int):int", "heap(int,int):int", "street(int,int,int):int",
        "count(int):int"};

    public static void main(String[] args) throws Exception {
        face();
        documented();
        parts();
        Due.end("FaceTest");
    }

    private static void face() throws Exception {
        Class<?> house = PostVotes.class;
        Due.yes("public and final", Modifier.isPublic(house.getModifiers()) && Modifier.isFinal(house.getModifiers()));
        Due.is("constructors", house.getDeclaredConstructors().length, 1);
        Due.yes("public constructor", Modifier.isPublic(house.getDeclaredConstructor().getModifiers()));
        TreeSet<String> open = new TreeSet<>();
        for (Method method : house.getDeclaredMethods()) {
            if (Modifier.isPublic(method.getModifiers())) {
                open.add(faceOf(method));
            } else {
                Due.yes(method.getName() + " is private", Modifier.isPrivate(method.getModifiers()));
            }
        }
        Due.yes("the face's methods: " + open, open.equals(new TreeSet<>(Arrays.asList(FACE))));
        for (Field field : house.getDeclaredFields()) {
            boolean told = field.getName().equals("NONE") || field.getName().equals("HIDDEN");
            Due.yes(field.getName(), told ? Modifier.isPublic(field.getModifiers()) : Modifier.isPrivate(field.getModifiers()));
        }
        Class<?>[] thrown = house.getMethod("letter", int.class, int.class, int.class).getExceptionTypes();
        Due.yes("letter tells what it throws", Arrays.asList(thrown).contains(java.util.NoSuchElementException.class));
    }

    /** The document's face is the list above. */
    private static void documented() {
        if (!Doc.isThere()) {
            return;
        }
        TreeSet<String> told = new TreeSet<>();
        Matcher method = Pattern.compile("public (int|boolean) (\\w+)\\(([^)]*)\\)( throws NoSuchElementException)?;").matcher(Doc.text("The public face"));
        while (method.find()) {
            String kinds = method.group(3).replaceAll(" \\w+(,|$) ?", "$1");
            told.add(method.group(2) + "(" + kinds + "):" + method.group(1));
            Due.yes(method.group(2) + " is told to throw", method.group(2).equals("letter") == (method.group(4) != null));
        }
        Due.yes("the document's methods: " + told, told.equals(new TreeSet<>(Arrays.asList(FACE))));
        Matcher constant = Pattern.compile("public static final int (\\w+) = (-?\\d+);").matcher(Doc.text("The public face"));
        while (constant.find()) {
            int value = constant.group(1).equals("NONE") ? PostVotes.NONE : constant.group(1).equals("HIDDEN") ? PostVotes.HIDDEN : 0;
            Due.is("constant " + constant.group(1), value, Integer.parseInt(constant.group(2)));
        }
    }

    private static String faceOf(Method method) {
        List<String> kinds = new ArrayList<>();
        for (Class<?> kind : method.getParameterTypes()) {
            kinds.add(kind.getName());
        }
        return method.getName() + "(" + String.join(",", kinds) + "):" + method.getReturnType().getName();
    }

    private static void parts() {
        List<Class<?>> all = new ArrayList<>(Arrays.asList(PostVotes.class.getDeclaredClasses()));
        for (Class<?> part : all) {
            Due.yes(part.getName() + " is static, and not public", Modifier.isStatic(part.getModifiers()) && !Modifier.isPublic(part.getModifiers()));
        }
        all.add(PostVotes.class);
        Due.yes("some twelve classes", all.size() <= 12);
        TreeSet<String> names = new TreeSet<>();
        for (String call : FACE) {
            names.add(call.substring(0, call.indexOf('(')));
        }
        for (Class<?> part : all) {
            int fields = 0;
            for (Field field : part.getDeclaredFields()) {
                boolean fixed = Modifier.isStatic(field.getModifiers());
                fields += fixed ? 0 : 1;
                Due.yes(field.getName() + " is final, if static", !fixed || Modifier.isFinal(field.getModifiers()));
            }
            Due.yes(part.getName() + " has some twenty fields", fields <= 20);
            for (Method method : part.getDeclaredMethods()) {
                Due.yes(method.getName() + " takes at most seven", method.getParameterCount() <= 7);
                Due.no(method.getName() + " bears a name of the face", part != PostVotes.class && names.contains(method.getName()));
                Due.no(method.getName() + " bears a name of the face, private", Modifier.isPrivate(method.getModifiers()) && names.contains(method.getName()));
            }
        }
    }
}
