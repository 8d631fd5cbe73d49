section LAWSTART
abbrev FQ : List Cond := flatC (Jvm.Cond.and given_1 narrow_1)
def wNm : List String := ["ADD", "CALL", "LOSE", "MONTH", "NIGHT"]
def sKs : List Nat := [66, 72, 75, 78, 81]
def wT (i : Nat) : Term := .static "VaultShelves$Word" (wNm.getD i "") "LVaultShelves$Word;"
def sT (i : Nat) : Term := .string "VaultShelves$Word" (sKs.getD i 0)
abbrev sV (i : Nat) : Term := .field (sT i) "java/lang/String" "value" "[B"
abbrev tWS : Term := .static "VaultShelves" "WORDS" "[LVaultShelves$Word;"
abbrev tSM : Term := .static "VaultShelves$1" "$SwitchMap$VaultShelves$Word" "[I"
set_option maxRecDepth 100000 in
theorem m_ex : ∀ i, i < 5 → Cond.exactly (sT i) "java/lang/String" ∈ FQ := by decide +kernel
set_option maxRecDepth 100000 in
theorem m_co : ∀ i, i < 5 → Cond.eq (.field (sT i) "java/lang/String" "coder" "B") (.int 0) ∈ FQ := by decide +kernel
set_option maxRecDepth 100000 in
theorem m_ar : ∀ i, i < 5 → Cond.arrayOf (sV i) .byte ∈ FQ := by decide +kernel
set_option maxRecDepth 100000 in
theorem m_le : ∀ i, i < 5 → Cond.eq (.length (sV i)) (.int (Int32.ofNat (wLn.getD i 0))) ∈ FQ := by decide +kernel
set_option maxRecDepth 100000 in
theorem m_el : ∀ i, i < 5 → ∀ j, j < wLn.getD i 0 → Cond.eq (.elem (sV i) (.int (Int32.ofNat j))) (.int ((wBy.getD i []).getD j 0)) ∈ FQ := by decide +kernel
set_option maxRecDepth 100000 in
theorem m_ne : ∀ i, i < 5 → ∀ j, j < 5 → i ≠ j → (Cond.not (Cond.eq (sT i) (sT j)) ∈ FQ ∨ Cond.not (Cond.eq (sT j) (sT i)) ∈ FQ) := by decide +kernel
set_option maxRecDepth 100000 in
theorem m_wx : ∀ i, i < 5 → Cond.exactly (wT i) "VaultShelves$Word" ∈ FQ := by decide +kernel
set_option maxRecDepth 100000 in
theorem m_we : ∀ i, i < 5 → Cond.eq (.elem tWS (.int (Int32.ofNat i))) (wT i) ∈ FQ := by decide +kernel
set_option maxRecDepth 100000 in
theorem m_wo : ∀ i, i < 5 → Cond.eq (.field (wT i) "java/lang/Enum" "ordinal" "I") (.int (nI i)) ∈ FQ := by decide +kernel
set_option maxRecDepth 100000 in
theorem m_wl : ∀ i, i < 5 → Cond.eq (.field (wT i) "VaultShelves$Word" "letters" "Ljava/lang/String;") (sT i) ∈ FQ := by decide +kernel
set_option maxRecDepth 100000 in
theorem m_wa : ∀ i, i < 5 → Cond.eq (.field (wT i) "VaultShelves$Word" "least" "I") (.int (wLe i)) ∈ FQ := by decide +kernel
set_option maxRecDepth 100000 in
theorem m_wm : ∀ i, i < 5 → Cond.eq (.field (wT i) "VaultShelves$Word" "most" "I") (.int (wMo i)) ∈ FQ := by decide +kernel
set_option maxRecDepth 100000 in
theorem m_wh : ∀ i, i < 5 → Cond.eq (.field (wT i) "VaultShelves$Word" "hasShelf" "Z") (.int (bI (wHb i))) ∈ FQ := by decide +kernel
set_option maxRecDepth 100000 in
theorem m_sm : ∀ i, i < 5 → Cond.eq (.elem tSM (.int (Int32.ofNat i))) (.int (nI (i + 1))) ∈ FQ := by decide +kernel
set_option maxRecDepth 100000 in
theorem m_sr : ∀ q ∈ txt, Cond.exactly (.string RX5 q.1) "java/lang/String" ∈ FQ := by decide +kernel
set_option maxRecDepth 100000 in
theorem m_st : ∀ q ∈ txt, Cond.stringRef RX5 q.1 q.2 ∈ lw_tbl := by decide +kernel
set_option maxRecDepth 100000 in
theorem m_nw : ∀ w ∈ nwE, w ∈ lw_tbl := by decide +kernel
variable {s : State} {args : Array Value}
set_option maxRecDepth 100000 in
theorem imm_start (hq : ∀ c ∈ FQ, c.before args s = true) (hts : ∀ w ∈ lw_tbl, w.before args s = true) : ∃ (wa sw : Nat) (ad aK aV : Nat → Nat), IMM wa sw ad aK aV (Fr s) s s.heap := by
  have hA : ∀ a : Nat, a < s.heap.size → ¬ Fr s a := fun a h => Nat.not_le.mpr h
  obtain ⟨aK, aV, hSS, hKe⟩ := vk_Sof (args := args) (s := s) (N := 5) (tm := sT) (len := wLn) (byt := wBy) (A := Fr s) (by decide) (fun i hi => hq _ (m_ex i hi)) (fun i hi => hq _ (m_co i hi)) (fun i hi => hq _ (m_ar i hi)) (fun i hi => hq _ (m_le i hi)) (fun i hi j hj => hq _ (m_el i hi j hj)) (fun i j hi hj hij => (m_ne i hi j hj hij).imp (hq _) (hq _)) hA
  have h0 : ∀ i : Nat, ∃ a : Nat, i < 5 → (wT i).eval args s none [] s = some (.ref a) := by
    intro i
    by_cases hi : i < 5
    · obtain ⟨a, -, -, -, q1, -⟩ := Cond.exactly_spec (args := args) (first := s) (o := none) (s := s) (idx := []) (t := wT i) (cls := "VaultShelves$Word") (hq _ (m_wx i hi))
      exact ⟨a, fun _ => q1⟩
    · exact ⟨0, fun h => absurd h hi⟩
  obtain ⟨ad, had⟩ := Classical.axiomOfChoice h0
  obtain ⟨wa, hw, hWT⟩ := va_Tof (args := args) (s := s) (tm := tWS) (ty := .object "VaultShelves$Word") (N := 5) (f := fun j => .ref (ad j)) (A := Fr s) (by decide) (hq _ (by decide +kernel)) (va_eqt (hq _ (by decide +kernel))) (fun j hj => va_eqv (hq _ (m_we j hj)) (had j hj)) hA
  obtain ⟨sw, hs, hST⟩ := va_Tof (args := args) (s := s) (tm := tSM) (ty := .int) (N := 5) (f := fun j => .int (nI (j + 1))) (A := Fr s) (by decide) (hq _ (by decide +kernel)) (va_eqt (hq _ (by decide +kernel))) (fun j hj => va_eqt (hq _ (m_sm j hj))) hA
  refine ⟨wa, sw, ad, aK, aV, va_Zref (hts _ (by decide +kernel)) (hts _ (by decide +kernel)) hw hA, hWT, fun i hi => ⟨va_Oof (hq _ (m_wx i hi)) (had i hi) hA, vk_OFof (had i hi) (va_eqv (hq _ (m_wl i hi)) (hKe i hi)) hA, vk_OFof (had i hi) (va_eqt (hq _ (m_wa i hi))) hA, vk_OFof (had i hi) (va_eqt (hq _ (m_wm i hi))) hA, vk_OFof (had i hi) (va_eqt (hq _ (m_wh i hi))) hA, vk_OFof (had i hi) (va_eqt (hq _ (m_wo i hi))) hA⟩, hSS, va_Zof (hts _ (by decide +kernel)) (hts _ (by decide +kernel)) (va_eqt (hq _ (by decide +kernel))) hA, va_Zqof (hts _ (by decide +kernel)) (hts _ (by decide +kernel)) (hq _ (by decide +kernel)) hA, va_Zref (hts _ (by decide +kernel)) (hts _ (by decide +kernel)) hs hA, hST⟩
set_option maxRecDepth 100000 in
theorem xim_start (hq : ∀ c ∈ FQ, c.before args s = true) (hts : ∀ w ∈ lw_tbl, w.before args s = true) : ∃ sa : Nat → Nat, XIM sa (Fr s) s s.heap := by
  have hA : ∀ a : Nat, a < s.heap.size → ¬ Fr s a := fun a h => Nat.not_le.mpr h
  have h0 : ∀ i : Nat, ∃ a : Nat, Cond.exactly (.string RX5 i) "java/lang/String" ∈ FQ → (Term.string RX5 i).eval args s none [] s = some (.ref a) := by
    intro i
    by_cases hi : Cond.exactly (.string RX5 i) "java/lang/String" ∈ FQ
    · obtain ⟨a, -, -, -, q1, -⟩ := Cond.exactly_spec (args := args) (first := s) (o := none) (s := s) (idx := []) (t := .string RX5 i) (cls := "java/lang/String") (hq _ hi)
      exact ⟨a, fun _ => q1⟩
    · exact ⟨0, fun h => absurd h hi⟩
  obtain ⟨sa, hsa⟩ := Classical.axiomOfChoice h0
  refine ⟨sa, fun w hw => va_Nw.of (nwE_on w hw) (hts w (m_nw w hw)), ⟨vx_Zqof (hts _ (by decide +kernel)) (hts _ (by decide +kernel)) (hq _ (by decide +kernel)) hA, vx_Zqof (hts _ (by decide +kernel)) (hts _ (by decide +kernel)) (hq _ (by decide +kernel)) hA⟩, fun q hx => vk_R.of (A := args) (hts _ (m_st q hx)) ?_⟩
  exact hsa q.1 (m_sr q hx)
set_option maxRecDepth 100000 in
theorem nc3_start (hq : ∀ c ∈ FQ, c.before args s = true) : NC3 s := ⟨va_Nc.of (hq _ (by decide +kernel)), va_Nc.of (hq _ (by decide +kernel)), va_Nc.of (hq _ (by decide +kernel))⟩
set_option maxRecDepth 100000 in
theorem nw_start (hts : ∀ w ∈ lw_tbl, w.before args s = true) : va_Nw nwW s := va_Nw.of rfl (hts _ (by decide +kernel))
set_option maxRecDepth 100000 in
theorem cn_start (hts : ∀ w ∈ lw_tbl, w.before args s = true) : cnW s := ⟨va_AO.of (hts _ (by decide +kernel)), va_AO.of (hts _ (by decide +kernel)), va_Nw.of rfl (hts _ (by decide +kernel)), va_Nw.of rfl (hts _ (by decide +kernel))⟩
set_option maxRecDepth 100000 in
theorem arr_i {ty : FieldType} (hv : ∀ (U : State) (cA : ClassId), U.vm.findClass ("[" ++ ty.toString) = some cA → va_RA U cA ty) (h : (Cond.arrayClass ty).before args s = true) : ∃ cA, ArrOfT s cA ty ∧ va_RA s cA ty := by
  obtain ⟨cA, kA, comp, h1, h2, h3⟩ := Cond.arrayClass_spec (args := args) (first := s) (o := none) (s := s) (idx := []) h
  exact ⟨cA, fun n z => ⟨fun k h => (by cases h), kA, h2, comp, h3⟩, hv s cA h1⟩
set_option maxRecDepth 100000 in
theorem arr_o {C : String} (h : (Cond.arrayOver (.object C)).before args s = true) : ∃ cA, ArrOfT s cA (.object C) ∧ va_RA s cA (.object C) := by
  obtain ⟨comp, cA, kA, h1, -, h3, h4, h5⟩ := Cond.arrayOver_spec (args := args) (first := s) (o := none) (s := s) (idx := []) h
  exact ⟨cA, fun n z => ⟨fun k h => (by cases h), kA, h3, comp, h4⟩, kA, comp, h3, h4, h1, h5⟩
set_option maxRecDepth 100000 in
theorem kn_start (hts : ∀ w ∈ lw_tbl, w.before args s = true) : ∃ (dC : Nat → ClassId) (dI : Nat → Nat → Nat) (cI cV cW cL : ClassId), va_K (dC, dI) vwCl (tyL cI cV cW cL) s := by
  obtain ⟨c0, i0, k0⟩ := u_known (C := RX1) (T := TX1) (N := 7) (n := 7) hts wsX10_lw (hts (.instantiable RX1 7) (by decide +kernel))
  obtain ⟨c1, i1, k1⟩ := u_known (C := RX2) (T := TX2) (N := 4) (n := 4) hts wsX20_lw (hts (.instantiable RX2 4) (by decide +kernel))
  obtain ⟨c2, i2, k2⟩ := u_known (C := RX3) (T := TX3) (N := 11) (n := 11) hts wsX30_lw (hts (.instantiable RX3 11) (by decide +kernel))
  obtain ⟨c3, i3, k3⟩ := u_known (C := RX5) (T := TX5) (N := 6) (n := 6) hts wsX50_lw (hts (.instantiable RX5 6) (by decide +kernel))
  obtain ⟨c4, i4, k4⟩ := u_known (C := RX6) (T := TX6) (N := 16) (n := 16) hts wsX60_lw (hts (.instantiable RX6 16) (by decide +kernel))
  obtain ⟨cI, aI, rI⟩ := arr_i (ty := .int) (fun U cA h => h) (hts _ (by decide +kernel))
  obtain ⟨cL, aL, rL⟩ := arr_i (ty := .long) (fun U cA h => h) (hts _ (by decide +kernel))
  obtain ⟨cV, aV, rV⟩ := arr_o (C := "VaultShelves$Vault") (hts _ (by decide +kernel))
  obtain ⟨cW, aW, rW⟩ := arr_o (C := "VaultShelves$Word") (hts _ (by decide +kernel))
  refine ⟨fun k => if k = 0 then c0 else if k = 1 then c1 else if k = 2 then c2 else if k = 3 then c3 else c4, fun k => if k = 0 then i0 else if k = 1 then i1 else if k = 2 then i2 else if k = 3 then i3 else i4, cI, cV, cW, cL, fun k q hq => ?_, fun k q hq => ?_⟩
  · match k, hq with
    | 0, hq => cases hq; exact k0
    | 1, hq => cases hq; exact k1
    | 2, hq => cases hq; exact k2
    | 3, hq => cases hq; exact k3
    | 4, hq => cases hq; exact k4
    | k + 5, hq => simp [vwCl] at hq
  · match k, hq with
    | 0, hq => cases hq; exact ⟨aI, rI⟩
    | 1, hq => cases hq; exact ⟨aV, rV⟩
    | 2, hq => cases hq; exact ⟨aW, rW⟩
    | 3, hq => cases hq; exact ⟨aL, rL⟩
    | k + 4, hq => simp [tyL] at hq
end LAWSTART
