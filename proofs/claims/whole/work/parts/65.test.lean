def zz_cls : Class := { start1.cArr "wanting" 13 .long with methods := #[{ name := "clone", desc := "()Ljava/lang/Object;", sig := { parameters := [], returnType := some (.object "java/lang/Object") }, accessFlags := 0x1, code := none }] }
def zz_bad : State := { start1.aboutOf #[] with vm := { (start1.aboutOf #[]).vm with classes := (start1.aboutOf #[]).vm.classes.push zz_cls }, heap := (start1.aboutOf #[]).heap.setIfInBounds 3 { cls := 20, slots := #[.long (4294966319), .long (4294967294), .long (4294967295), .long (4294967295), .long (4294967295), .long (4294967295), .long (4294967295), .long (4294967295)], vm := .none } }
def zz_f (n : Nat) : State := stepsAlone start1.p0.tables start1.e0 n zz_bad
theorem zz_a : (decide (35 ≤ (zz_f 160).heap.size)) = true := by decide +kernel
theorem zz_b : (decide (36 ≤ (zz_f 190).heap.size)) = true := by decide +kernel
theorem zz_c : (decide (41 ≤ (zz_f 220).heap.size)) = true := by decide +kernel
theorem zz_d : (decide (41 ≤ (zz_f 250).heap.size)) = true := by decide +kernel
