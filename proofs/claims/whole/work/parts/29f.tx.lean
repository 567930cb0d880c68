theorem plS : Jvm.plainName "java/lang/String" = true ∧ Jvm.plainName "java/lang/StringLatin1" = true ∧ Jvm.plainName "jdk/internal/util/Preconditions" = true := by decide +kernel
