/-! the law of texts -/
def TzO (B : Nat) (sa aV : Nat → Nat) (U : State) : Prop := TxE B sa aV U ∧ vk_R jT 53 "table" (sa 0) U ∧ vk_R jT 59 "row" (sa 1) U ∧ vk_R jT 61 "rule" (sa 2) U ∧ vk_R jT 63 "false" (sa 3) U
theorem str_all : strT.all (fun q => q.1 == 9 && ((q.2.1 == 53 && q.2.2.1 == 0) || (q.2.1 == 59 && q.2.2.1 == 1) || (q.2.1 == 61 && q.2.2.1 == 2) || (q.2.1 == 63 && q.2.2.1 == 3))) = true := by decide +kernel
theorem sln_all : slnT.all (fun q => q.1 == 9 && q.2.1 == 65) = true := by decide +kernel
theorem sch_all : schT.all (fun q => q.1 == 9 && q.2.1 == 71) = true := by decide +kernel
theorem cnm9 : cnm 9 = jT := by decide +kernel
