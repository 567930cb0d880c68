theorem plain_all : (List.range 275).all (fun y => Jvm.plainName (mName y).cls) = true := by decide +kernel
