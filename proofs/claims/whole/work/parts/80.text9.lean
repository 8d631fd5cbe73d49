section TEXT9
theorem sg_c {B : Nat → Int32} {n t : Nat} {x : Int32} (h0 : ¬ x = 0) (h1 : ¬ x = -1) : (sSg B n t = x) ↔ (cSg B n t = x) := by
  unfold sSg cSg
  split
  · exact Iff.rfl
  · exact ⟨fun e => absurd e.symm h0, fun e => absurd e.symm h1⟩
/-- one letter more: both read it alike -/
theorem cLt_w {B : Nat → Int32} {n i t j : Nat} (h0 : ¬ wCh i j = 0) (h1 : ¬ wCh i j = -1) : cLt B n i t (j + 1) = wW B n (wCh i j) (cLt B n i t j) := by
  rw [cLt, wW]
  by_cases e : (cLt B n i t j).1 = true
  · rw [if_pos e, e, Bool.true_and, decide_eq_decide.mpr (sg_c (B := B) (n := n) (t := (cLt B n i t j).2) h0 h1)]
    refine Prod.ext rfl ?_
    show (if _ then _ else _) = (if _ then _ else _)
    by_cases f : cSg B n (cLt B n i t j).2 = wCh i j
    · rw [if_pos f, if_pos (decide_eq_true f)]
    · rw [if_neg f, if_neg (by rw [decide_eq_false f]; decide)]
  · rw [if_neg e]
    rw [Bool.not_eq_true] at e
    rw [e, Bool.false_and, if_neg Bool.false_ne_true]
    exact Prod.ext e rfl
theorem cLt_1 {B : Nat → Int32} {n i t : Nat} (h : cSg B n t = wCh i 0) : cLt B n i t 1 = (true, t + 1) := cLt_t (u := t) rfl h
theorem wCh_nz : ∀ i, i < 5 → ∀ j, j < wLn.getD i 0 → ¬ wCh i j = 0 := by decide +kernel
theorem lt_all {B : Nat → Int32} {n i t j : Nat} (hi : i < 5) (hj : j < wLn.getD i 0) : cLt B n i t (j + 1) = wW B n (wCh i j) (cLt B n i t j) := cLt_w (wCh_nz i hi j hj) (wCh_m1 i hi j hj)
/-- the word ahead, as both read it -/
theorem wd_some {B : Nat → Int32} {n t i : Nat} (h : cWa (cSg B n t) = some i) : wWd B n t = (i + 1, cLt B n i t (wLn.getD i 0)) := by
  obtain ⟨hi, e⟩ := cWa_lt h
  have h1 := cLt_1 (B := B) (n := n) (t := t) e.symm
  have sg : sSg B n t = wCh i 0 := (sg_c (wCh_nz i hi 0 (wLn_le i hi).2) (wCh_m1 i hi 0 (wLn_le i hi).2)).mpr e.symm
  match i, hi, h1, sg with
  | 0, hi, h1, sg =>
    have l : cLt B n 0 t 3 = wR B n 100 100 0 0 (true, t + 1) := by
      rw [lt_all (j := 2) hi (by decide), lt_all (j := 1) hi (by decide), h1]; rfl
    rw [wWd, if_pos (show sSg B n t = nI 97 from sg)]
    exact Prod.ext rfl l.symm
  | 1, hi, h1, sg =>
    have l : cLt B n 1 t 4 = wR B n 97 108 108 0 (true, t + 1) := by
      rw [lt_all (j := 3) hi (by decide), lt_all (j := 2) hi (by decide), lt_all (j := 1) hi (by decide), h1]; rfl
    have sg : sSg B n t = nI 99 := sg
    rw [wWd, if_neg (by rw [sg]; decide), if_pos sg]
    exact Prod.ext rfl l.symm
  | 2, hi, h1, sg =>
    have l : cLt B n 2 t 4 = wR B n 111 115 101 0 (true, t + 1) := by
      rw [lt_all (j := 3) hi (by decide), lt_all (j := 2) hi (by decide), lt_all (j := 1) hi (by decide), h1]; rfl
    have sg : sSg B n t = nI 108 := sg
    rw [wWd, if_neg (by rw [sg]; decide), if_neg (by rw [sg]; decide), if_pos sg]
    exact Prod.ext rfl l.symm
  | 3, hi, h1, sg =>
    have l : cLt B n 3 t 5 = wR B n 111 110 116 104 (true, t + 1) := by
      rw [lt_all (j := 4) hi (by decide), lt_all (j := 3) hi (by decide), lt_all (j := 2) hi (by decide), lt_all (j := 1) hi (by decide), h1]; rfl
    have sg : sSg B n t = nI 109 := sg
    rw [wWd, if_neg (by rw [sg]; decide), if_neg (by rw [sg]; decide), if_neg (by rw [sg]; decide), if_pos sg]
    exact Prod.ext rfl l.symm
  | 4, hi, h1, sg =>
    have l : cLt B n 4 t 5 = wR B n 105 103 104 116 (true, t + 1) := by
      rw [lt_all (j := 4) hi (by decide), lt_all (j := 3) hi (by decide), lt_all (j := 2) hi (by decide), lt_all (j := 1) hi (by decide), h1]; rfl
    have sg : sSg B n t = nI 110 := sg
    rw [wWd, if_neg (by rw [sg]; decide), if_neg (by rw [sg]; decide), if_neg (by rw [sg]; decide), if_neg (by rw [sg]; decide), if_pos sg]
    exact Prod.ext rfl l.symm
theorem wd_none {B : Nat → Int32} {n t : Nat} (h : cWa (cSg B n t) = none) : wWd B n t = (0, (false, t)) := by
  have no : ∀ i, i < 5 → ¬ sSg B n t = wCh i 0 := fun i hi e => by
    have e2 := (sg_c (wCh_nz i hi 0 (wLn_le i hi).2) (wCh_m1 i hi 0 (wLn_le i hi).2)).mp e
    rw [e2] at h
    revert h
    match i, hi with
    | 0, _ => decide
    | 1, _ => decide
    | 2, _ => decide
    | 3, _ => decide
    | 4, _ => decide
  rw [wWd, if_neg (show ¬ sSg B n t = nI 97 from no 0 (by omega)), if_neg (show ¬ sSg B n t = nI 99 from no 1 (by omega)), if_neg (show ¬ sSg B n t = nI 108 from no 2 (by omega)), if_neg (show ¬ sSg B n t = nI 109 from no 3 (by omega)), if_neg (show ¬ sSg B n t = nI 110 from no 4 (by omega))]
/-- a digit, as both see it -/
theorem dg_n {B : Nat → Int32} {n t : Nat} (h : sIn (sSg B n t) 48 57 = false) : cDg B n t = -1 := by
  unfold cDg
  by_cases f : t < n
  · have e : cSg B n t = sSg B n t := by rw [cSg, sSg, if_pos f, if_pos f]
    rw [e]
    unfold sIn at h
    rw [Bool.and_eq_false_iff, decide_eq_false_iff_not, decide_eq_false_iff_not] at h
    by_cases a : sSg B n t < nI 48
    · rw [if_pos a]
    · rw [if_neg a]
      have h2 : ¬ sSg B n t ≤ 57 := h.resolve_left (fun q => q (Int32.not_lt.mp a))
      rw [if_pos (show nI 57 < sSg B n t from Int32.not_le.mp h2)]
  · have e : cSg B n t = -1 := by rw [cSg, if_neg f]
    rw [e, if_pos (by decide)]
theorem dg_d {B : Nat → Int32} {n t : Nat} (h : sIn (sSg B n t) 48 57 = true) : ∃ d, d ≤ 9 ∧ sSg B n t = nI (48 + d) ∧ cDg B n t = nI d := by
  obtain ⟨j, h1, h2, e⟩ := sIn_nI (a := 48) (b := 57) (by decide) (by decide) h
  have ht : t < n := sSg_lt (B := B) (by rw [e]; exact fun q => absurd ((nI_eq (a := j) (b := 0) (by omega) (by omega)).mp q) (by omega))
  have e2 : cSg B n t = nI j := by rw [← e, cSg, sSg, if_pos ht, if_pos ht]
  refine ⟨j - 48, by omega, by rw [e]; congr 1; omega, ?_⟩
  unfold cDg
  rw [e2, if_neg (fun q => by rw [nI_ltI (by omega) (by omega)] at q; omega), if_neg (fun q => by rw [nI_ltI (by omega) (by omega)] at q; omega), show (48 : Int32) = nI 48 from rfl, pk_sub (by omega)]
theorem sIn_d {d a b : Nat} (hd : d < 1000) (ha : a < 1000) (hb : b < 1000) : sIn (nI d) (nI a) (nI b) = (decide (a ≤ d) && decide (d ≤ b)) := by
  rw [sIn, decide_eq_decide.mpr (nI_leI (a := a) (b := d) (by omega) (by omega)), decide_eq_decide.mpr (nI_leI (a := d) (b := b) (by omega) (by omega))]
theorem nI_ne {d : Nat} (h : d < 1000) : ¬ nI d = -1 := fun q => nI_pos (n := d) (by omega) (by rw [q]; decide)
/-- a number read by both: at most two digits -/
theorem nb_eq {B : Nat → Int32} {n i t least most : Nat} (hl : least ≤ 1) (hm1 : 9 ≤ most) (hm2 : most ≤ 30) (e1 : wLe i = nI least) (e2 : wMo i = nI most) :
    (nNum B n least most (true, t)).2 = (cNb B n i t).1 ∧ ((cNb B n i t).1.1 = true → (nNum B n least most (true, t)).1 = (cNb B n i t).2) := by
  have hi9 : nI (48 + (if most < 9 then most else 9)) = nI 57 := by rw [if_neg (by omega)]
  by_cases h : sIn (sSg B n t) 48 57 = true
  · obtain ⟨d, hd, es, ed⟩ := dg_d h
    have hin : nIn B n least most (true, t) = decide (least ≤ d) := by
      show (true && sIn (sSg B n t) (nI (48 + least)) _) = _
      rw [hi9, es, sIn_d (by omega) (by omega) (by omega), Bool.true_and, decide_eq_true (show 48 + d ≤ 57 by omega), Bool.and_true]
      exact decide_eq_decide.mpr (by omega)
    unfold cNb
    rw [ed, e1, e2]
    by_cases a : least ≤ d
    · rw [decide_eq_true a] at hin
      rw [if_neg (fun q => q.elim (nI_ne (by omega)) (fun q => by rw [nI_ltI (by omega) (by omega)] at q; omega))]
      have ev : sSg B n t - 48 = nI d := by rw [es, show (48 : Int32) = nI 48 from rfl, pk_sub (by omega)]; congr 1; omega
      have stop : ∀ (v u : Nat), 10 ≤ v → v ≤ 30 → nCn B n most true (nI v) u = false := fun v u h1 h2 => by
        by_cases g : sIn (sSg B n u) 48 57 = true
        · obtain ⟨c, hc, ec, -⟩ := dg_d g
          have : ¬ (10 * nI v + sSg B n u - 48 ≤ nI most) := by
            rw [ec, show (10 : Int32) = nI 10 from rfl, pk_mul, nI_add, show (48 : Int32) = nI 48 from rfl, pk_sub (by omega), nI_leI (by omega) (by omega)]
            omega
          rw [nCn, decide_eq_false this, Bool.and_false, Bool.and_false, Bool.and_false]
        · rw [Bool.not_eq_true] at g
          rw [nCn, g, Bool.false_and, Bool.and_false, Bool.and_false]
      by_cases z : d = 0
      · subst z
        have hn : nCn B n most true (nI 0) (t + 1) = false := by rw [nCn, decide_eq_false (show ¬ (0 : Int32) < nI 0 by decide), Bool.false_and, Bool.and_false]
        have h9 : nLp B n most true (n - (t + 1)) (sSg B n t - 48) (t + 1) = (nI 0, t + 1) := by rw [ev]; exact nLp_stop hn
        rw [nNum_t hin h9, if_neg (fun q => absurd q.1 (by decide))]
        exact ⟨rfl, fun _ => rfl⟩
      · have pz : (0 : Int32) < nI d := (nI_ltI (a := 0) (by omega) (by omega)).mpr (by omega)
        by_cases g : sIn (sSg B n (t + 1)) 48 57 = true
        · obtain ⟨c, hc, ec, eg⟩ := dg_d g
          have hv : 10 * nI d + sSg B n (t + 1) - 48 = nI (10 * d + c) := by
            rw [ec, show (10 : Int32) = nI 10 from rfl, pk_mul, nI_add, show (48 : Int32) = nI 48 from rfl, pk_sub (by omega)]; congr 1; omega
          have hw : 10 * nI d + nI c = nI (10 * d + c) := by rw [show (10 : Int32) = nI 10 from rfl, pk_mul, nI_add]
          rw [eg, hw]
          by_cases m : 10 * d + c ≤ most
          · have hn : nCn B n most true (nI d) (t + 1) = true := by
              rw [nCn, decide_eq_true pz, g, hv, decide_eq_true ((nI_leI (by omega) (by omega)).mpr m)]; rfl
            have h3 := nLp_step hn
            rw [hv, nLp_stop (stop (10 * d + c) (t + 1 + 1) (by omega) (by omega))] at h3
            have h9 : nLp B n most true (n - (t + 1)) (sSg B n t - 48) (t + 1) = (nI (10 * d + c), t + 1 + 1) := by rw [ev]; exact h3
            rw [nNum_t hin h9, if_pos ⟨pz, nI_ne (by omega), (nI_leI (by omega) (by omega)).mpr m⟩]
            exact ⟨rfl, fun _ => rfl⟩
          · have hn : nCn B n most true (nI d) (t + 1) = false := by
              rw [nCn, hv, decide_eq_false (fun q => m ((nI_leI (by omega) (by omega)).mp q)), Bool.and_false, Bool.and_false, Bool.and_false]
            have h9 : nLp B n most true (n - (t + 1)) (sSg B n t - 48) (t + 1) = (nI d, t + 1) := by rw [ev]; exact nLp_stop hn
            rw [nNum_t hin h9, if_neg (fun q => m ((nI_leI (by omega) (by omega)).mp q.2.2))]
            exact ⟨rfl, fun _ => rfl⟩
        · rw [Bool.not_eq_true] at g
          have hn : nCn B n most true (nI d) (t + 1) = false := by rw [nCn, g, Bool.false_and, Bool.and_false, Bool.and_false]
          have h9 : nLp B n most true (n - (t + 1)) (sSg B n t - 48) (t + 1) = (nI d, t + 1) := by rw [ev]; exact nLp_stop hn
          rw [nNum_t hin h9, if_neg (fun q => q.2.1 (dg_n g))]
          exact ⟨rfl, fun _ => rfl⟩
    · rw [decide_eq_false a] at hin
      rw [if_pos (Or.inr ((nI_ltI (by omega) (by omega)).mpr (by omega))), nNum_f hin]
      exact ⟨rfl, fun q => absurd q Bool.false_ne_true⟩
  · rw [Bool.not_eq_true] at h
    have hin : nIn B n least most (true, t) = false := by
      show (true && sIn (sSg B n t) (nI (48 + least)) _) = _
      rw [hi9, Bool.true_and]
      by_cases g : sIn (sSg B n t) (nI (48 + least)) (nI 57) = true
      · obtain ⟨j, h1, h2, e⟩ := sIn_nI (by decide) (by omega) g
        rw [e, show (48 : Int32) = nI 48 from rfl, show (57 : Int32) = nI 57 from rfl, sIn_d (by omega) (by omega) (by omega), decide_eq_true (show 48 ≤ j by omega), decide_eq_true h2] at h
        exact absurd h (by decide)
      · exact Bool.not_eq_true _ ▸ g
    unfold cNb
    rw [if_pos (Or.inl (dg_n h)), nNum_f hin]
    exact ⟨rfl, fun q => absurd q Bool.false_ne_true⟩
/-- a shelf read by both -/
theorem sh_eq {B : Nat → Int32} {n t : Nat} : nNum B n 0 5 (true, t) = (if cSh (cDg B n t) = true then (cDg B n t, (true, t + 1)) else (sSg B n t - 48, (false, t))) ∧ (cSh (cDg B n t) = true → Ok6 (cDg B n t)) := by
  by_cases h : sIn (sSg B n t) 48 57 = true
  · obtain ⟨d, hd, es, ed⟩ := dg_d h
    have hs : cSh (cDg B n t) = decide (d < 6) := by
      rw [ed, cSh, decide_eq_false (nI_ne (by omega))]
      exact decide_eq_decide.mpr (nI_ltI (by omega) (by omega))
    have hin : nIn B n 0 5 (true, t) = decide (d < 6) := by
      show (true && sIn (sSg B n t) (nI (48 + 0)) (nI (48 + (if 5 < 9 then 5 else 9)))) = _
      rw [if_pos (by omega), es, sIn_d (by omega) (by omega) (by omega), Bool.true_and, decide_eq_true (show 48 + 0 ≤ 48 + d by omega), Bool.true_and]
      exact decide_eq_decide.mpr (by omega)
    rw [hs]
    by_cases a : d < 6
    · rw [decide_eq_true a] at hin ⊢
      rw [if_pos rfl, ed]
      have ev : sSg B n t - 48 = nI d := by rw [es, show (48 : Int32) = nI 48 from rfl, pk_sub (by omega)]; congr 1; omega
      have hn : nCn B n 5 true (nI d) (t + 1) = false := by
        by_cases z : d = 0
        · subst z; rw [nCn, decide_eq_false (show ¬ (0 : Int32) < nI 0 by decide), Bool.false_and, Bool.and_false]
        by_cases g : sIn (sSg B n (t + 1)) 48 57 = true
        · obtain ⟨c, hc, ec, -⟩ := dg_d g
          have : ¬ (10 * nI d + sSg B n (t + 1) - 48 ≤ nI 5) := by
            rw [ec, show (10 : Int32) = nI 10 from rfl, pk_mul, nI_add, show (48 : Int32) = nI 48 from rfl, pk_sub (by omega), nI_leI (by omega) (by omega)]
            omega
          rw [nCn, decide_eq_false this, Bool.and_false, Bool.and_false, Bool.and_false]
        · rw [Bool.not_eq_true] at g
          rw [nCn, g, Bool.false_and, Bool.and_false, Bool.and_false]
      have h9 : nLp B n 5 true (n - (t + 1)) (sSg B n t - 48) (t + 1) = (nI d, t + 1) := by rw [ev]; exact nLp_stop hn
      exact ⟨nNum_t hin h9, fun _ => Ok6_nI a⟩
    · rw [decide_eq_false a] at hin ⊢
      rw [if_neg Bool.false_ne_true]
      exact ⟨nNum_f hin, fun q => absurd q Bool.false_ne_true⟩
  · rw [Bool.not_eq_true] at h
    have hin : nIn B n 0 5 (true, t) = false := by
      show (true && sIn (sSg B n t) (nI (48 + 0)) (nI (48 + (if 5 < 9 then 5 else 9)))) = _
      rw [if_pos (by omega), Bool.true_and]
      by_cases g : sIn (sSg B n t) (nI (48 + 0)) (nI (48 + 5)) = true
      · obtain ⟨j, h1, h2, e⟩ := sIn_nI (by decide) (by decide) g
        rw [e, show (48 : Int32) = nI 48 from rfl, show (57 : Int32) = nI 57 from rfl, sIn_d (by omega) (by omega) (by omega), decide_eq_true (show 48 ≤ j by omega), decide_eq_true (show j ≤ 57 by omega)] at h
        exact absurd h (by decide)
      · exact Bool.not_eq_true _ ▸ g
    have hs : cSh (cDg B n t) = false := by rw [dg_n h]; decide
    rw [hs, if_neg Bool.false_ne_true]
    exact ⟨nNum_f hin, fun q => absurd q Bool.false_ne_true⟩
end TEXT9
