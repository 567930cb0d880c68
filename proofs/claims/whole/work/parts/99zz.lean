/-! the claim -/
theorem i_vc : Claimed_1_1 ∧ Claimed_1_2 := of_owed (fun sc h1 h2 => owed_all sc h1 h2)
