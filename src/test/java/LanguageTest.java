import com.sun.source.tree.ClassTree;
import com.sun.source.tree.CompilationUnitTree;
import com.sun.source.tree.Tree;
import com.sun.source.tree.Tree.Kind;
import com.sun.source.tree.VariableTree;
import com.sun.source.util.JavacTask;
import com.sun.source.util.Trees;
import java.io.IOException;
import java.nio.charset.StandardCharsets;
import java.nio.file.Files;
import java.nio.file.Path;
import java.util.EnumSet;
import java.util.List;
import java.util.Set;
import javax.tools.JavaCompiler;
import javax.tools.StandardJavaFileManager;
import javax.tools.ToolProvider;

/** The rules of LANGUAGE.md that can be seen from the class's text, as the compiler reads it. */
public final class LanguageTest {
    private static final Path SOURCE = Path.of("src/main/java/AdmissionControl.java");
    private static final int MOST_CLASSES = 12;
    private static final int MOST_FIELDS = 20;
    private static final int MOST_PARAMETERS = 7;
    private static final int MOST_LINES = 60;
    private static final int MOST_CALLS = 8;
    /** The compiler puts the call of Object's constructor into each constructor. */
    private static final Set<String> LIBRARY = Set.of("Math.max", "Math.min", "Object.<init>");
    private static final Set<String> TYPES = Set.of("int", "boolean", "float", "int[]");
    /** What rules 2 and 6 rule out, or allow within bounds that the class has no need of. */
    private static final Set<Kind> RULED_OUT = EnumSet.of(Kind.LAMBDA_EXPRESSION, Kind.MEMBER_REFERENCE, Kind.THROW,
        Kind.TRY, Kind.CATCH, Kind.SYNCHRONIZED, Kind.ASSERT, Kind.STRING_LITERAL, Kind.INSTANCE_OF, Kind.RECORD,
        Kind.ANNOTATION, Kind.IMPORT, Kind.PACKAGE, Kind.SWITCH_EXPRESSION, Kind.YIELD, Kind.DOUBLE_LITERAL);

    private static Code code;

    public static void main(String[] args) throws IOException {
        JavaCompiler compiler = ToolProvider.getSystemJavaCompiler();
        try (StandardJavaFileManager files = compiler.getStandardFileManager(null, null, null)) {
            JavacTask task =
                (JavacTask) compiler.getTask(null, files, null, List.of(), null, files.getJavaFileObjects(SOURCE));
            CompilationUnitTree unit = task.parse().iterator().next();
            task.analyze();
            code = new Code(unit, Trees.instance(task));
            Check.each(LanguageTest.class);
        }
        Check.end("LanguageTest");
    }

    static void rule1NoMethodInsideBearsTheNameOfAPublicOne() {
        for (Code.Function one : code.functions()) {
            for (Code.Function other : code.functions()) {
                Check.holds(one + " has a name of its own",
                    one == other || !one.isOfTheFace() || !one.name().equals(other.name()));
            }
        }
    }

    static void rule2And6WhatIsRuledOutDoesNotStandHere() {
        for (Tree tree : code.trees()) {
            Check.holds("no " + tree.getKind() + ": " + tree, !RULED_OUT.contains(tree.getKind()));
        }
    }

    static void rule3TypesAreFewAndOwn() {
        for (Code.Variable variable : code.variables()) {
            String type = variable.type();
            Check.holds("a type of the language: " + type + " " + variable.name(),
                TYPES.contains(type) || code.isOwn(type.replace("[]", "")));
        }
    }

    static void rule3SignsAre1To127() throws IOException {
        String text = Files.readString(SOURCE, StandardCharsets.ISO_8859_1);
        Check.holds("signs are 1 to 127", text.chars().allMatch(sign -> sign > 0 && sign <= 127));
    }

    static void rule4TheLibraryIsSmall() {
        for (Code.Function function : code.functions()) {
            for (String call : function.libraryCalls()) {
                Check.holds(function + " calls what the list has: " + call, LIBRARY.contains(call));
            }
        }
    }

    static void rule5StaticFieldsAreConstants() {
        for (Code.Variable variable : code.variables()) {
            Check.holds(variable.name() + " is constant",
                !variable.isStatic() || (variable.isFinal() && variable.isConstant()));
        }
        Check.due("blocks outside methods", code.blocksOutside(), 0);
    }

    static void rule7AnIndexIsTestedBeforeItIsUsed() {
        Check.holds("there are indexes", !code.indexes().isEmpty());
        for (Code.Use index : code.indexes()) {
            String name = index.name();
            Check.holds("a test of the index in " + index.where(),
                index.isTested(name + " < " + index.of() + ".length")
                    && (index.isTested(name + " >= 0") || index.isTested("int " + name + " = 0")));
        }
    }

    static void rule7ADivisorIsTestedBeforeItDivides() {
        Check.holds("there are divisions", !code.divisors().isEmpty());
        for (Code.Use divisor : code.divisors()) {
            Check.holds("a test of the divisor in " + divisor.where(),
                divisor.isNumberBut0() || divisor.isTested(divisor.name() + " < 1") || divisor.isFloat());
        }
    }

    static void rule7ALengthIsTestedBeforeTheArrayIsMade() {
        for (Code.Use length : code.lengths()) {
            Check.holds("a test of the length in " + length.where(),
                length.isNumberBut0() || length.name().contains(" < 0 ? 0 : "));
        }
    }

    static void rule7AReferenceIsTestedAgainstNullBeforeItIsUsed() {
        int found = 0;
        for (Code.Function function : code.functions()) {
            for (Code.Call call : function.mayAnswerNull() ? function.callers() : List.<Code.Call>of()) {
                found++;
                Check.holds("the answer of " + function + " is tested in " + call.from(),
                    call.parent() instanceof VariableTree kept && call.from().testsForNull(kept.getName().toString()));
            }
        }
        Check.holds("some answers may be null", found > 0);
    }

    static void rule8NothingCallsItselfAndRule11CallsGoEightDeepAtMost() {
        for (Code.Function function : code.functions()) {
            int depth = code.depth(function, MOST_CALLS + 1);
            Check.holds(function + " goes at most eight deep, not " + depth, depth <= MOST_CALLS);
        }
    }

    static void rule9EveryLoopTellsItsBound() {
        for (Tree loop : code.loops()) {
            String head = loop.toString().lines().findFirst().orElse("");
            Check.holds("a bound in: " + head, head.matches("(for|while) \\(.*\\w+ (<|<=|>) [\\w.()]+.*"));
        }
    }

    static void rule11MethodsAndClassesAreSmall() {
        Check.holds("few classes", code.classes().size() <= MOST_CLASSES);
        for (ClassTree one : code.classes()) {
            Check.holds("few fields in " + one.getSimpleName(), code.fields(one) <= MOST_FIELDS);
        }
        for (Code.Function function : code.functions()) {
            Check.holds("few parameters of " + function, function.parameters() <= MOST_PARAMETERS);
            Check.holds(function + " is short", function.lines() <= MOST_LINES);
        }
    }

    static void rule12ObjectsAreMadeByConstructorsAlone() {
        for (Code.Function function : code.functions()) {
            Check.holds(function + " makes no object", function.isConstructor() || !function.makesObjects());
        }
    }
}
