set_option maxHeartbeats 4000000 in
set_option maxRecDepth 100000 in
theorem kX6_saves (l : Launch) (dC : Nat → ClassId) (dI : Nat → Nat → Nat) (cI cV cW : ClassId) (sz : Nat) (o : Nat) (th : Int32) (aS : Nat) (aA : Nat) (aV : Nat) (aB : Nat) (ln : Int32) (at_ : Int32) (wl : Int32) (aR : Nat) (rm : Int32) (ga : Int32) (fi : Int32) (se : Int32) (ex : Int32) (ha : Int64) (S : Nat → Int32) (V : Nat → Int32) (n : Nat) (hn : n ≤ 6) : Met l yX6_saves wsX6_saves ({ frames := 0, cells := 0, slots := 0, locals := 0 }) (pW (dC, dI) (tyS cI cV cW) sz [.ref o] [(o, .inr (4, [.int th, .ref aS, .ref aA, .ref aV, .int (nI n), .ref aB, .int ln, .int at_, .int wl, .ref aR, .int rm, .int ga, .int fi, .int se, .int ex, .long ha])), (aS, .inl (cI, 96, .inl S)), (aV, .inl (cI, 576, .inl V))]) (va_Qv (fun (_ : Unit) => True) (fun (_ : Unit) t => qB (dC, dI) (tyS cI cV cW) (va_A [(o, .inr (4, [.int th, .ref aS, .ref aA, .ref aV, .int (nI n), .ref aB, .int ln, .int at_, .int wl, .ref aR, .int rm, .int ga, .int fi, .int se, .int ex, .long ha])), (aS, .inl (cI, 96, .inl S)), (aV, .inl (cI, 576, .inl V))] sz) [(o, .inr (4, [.int th, .ref aS, .ref aA, .ref aV, .int (nI (svN n)), .ref aB, .int ln, .int at_, .int wl, .ref aR, .int rm, .int ga, .int fi, .int se, .int ex, .long ha])), (aS, .inl (cI, 96, .inl S)), (aV, .inl (cI, 576, .inl (svV S V n)))] t) (va_A [(o, .inr (4, [.int th, .ref aS, .ref aA, .ref aV, .int (nI n), .ref aB, .int ln, .int at_, .int wl, .ref aR, .int rm, .int ga, .int fi, .int se, .int ex, .long ha])), (aS, .inl (cI, 96, .inl S)), (aV, .inl (cI, 576, .inl V))] sz)) 0 0 (va_A [(o, .inr (4, [.int th, .ref aS, .ref aA, .ref aV, .int (nI n), .ref aB, .int ln, .int at_, .int wl, .ref aR, .int rm, .int ga, .int fi, .int se, .int ex, .long ha])), (aS, .inl (cI, 96, .inl S)), (aV, .inl (cI, 576, .inl V))] sz) := by
  refine Met.ofW (cc := cX6_saves) (maxL := 2) (ret := none) (by decide) rfl ?_
  intro p e s m args below meth c s₁ B hml hv
  obtain ⟨rfl, hsz, hP, hK, hD0⟩ := hv
  have hx := B.exec
  have hb := B.bytes
  have hr := B.returns
  have hts := atoms_spec (ws := wsX6_saves) B.pre
  have hown : s.vm.findClass RX6 = some m.cls := findClass_of_methodNamed B.named
  have hlocks := B.notSynchronized
  subst hsz
  have hD := hD0.self (sz := s.heap.size)
  generalize hAe : va_A [(o, .inr (4, [.int th, .ref aS, .ref aA, .ref aV, .int (nI n), .ref aB, .int ln, .int at_, .int wl, .ref aR, .int rm, .int ga, .int fi, .int se, .int ex, .long ha])), (aS, .inl (cI, 96, .inl S)), (aV, .inl (cI, 576, .inl V))] s.heap.size = A at hD ⊢
  have hA : ∀ q : Nat, s.heap.size ≤ q → A q := fun q h => by rw [← hAe]; exact Or.inr h
  have hS : va_S A s.heap s.heap [] := va_S.rf
  refine w_gen hP hS (fun H locs hP hS => ?_)
  have hf33 := hts (.fieldLink RX6 33 "VaultShelvesModel" "savedMany" "I") (by decide +kernel)
  have hf16 := hts (.fieldLink RX6 16 "VaultShelvesModel" "saved" "[I") (by decide +kernel)
  have hf7 := hts (.fieldLink RX6 7 "VaultShelvesModel" "s" "[I") (by decide +kernel)
  have hiX6 : ∀ w ∈ u_ws RX6 TX6 16, w ∈ wsX6_saves := by decide +kernel
  have hl := lv_entry ([.ref o]) (n := 2) (Nat.le_of_ble_eq_true rfl)
  rw [lg_entry_eq]
  generalize (lg_sl ([.ref o]) ++ List.replicate (2 - (lg_sl ([.ref o])).length) Slot.unset).toArray = ls at hl ⊢
  replace hl : lv_has ls 2 [(0, .ref o)] := hl
  refine lv_aload_n hx hb dX6_saves_0 rfl (lv_at hl 0 rfl) ?_
  refine va_get (D := (dC, dI)) (ci := 4) (v := .int (nI n)) (C := RX6) (T := TX6) (N := 16) hx hb hts hiX6 hown hK hP 0 rfl rfl 4 (by decide) hf33 (fun _ h9 => h9) rfl dX6_saves_1 ?_
  refine lv_bipush (v := (nI 6)) hx hb dX6_saves_4 (by decide) ?_
  refine n_icmp_ne (tgt := 49) hx hb dX6_saves_6 (by decide) (by omega) (by omega) (fun c_6 => ?_) (fun c_6 => ?_)
  · refine lv_iconst (v := (nI 0)) hx hb dX6_saves_49 (by decide) ?_
    refine lv_istore_n (lv' := [(1, .int (nI 0)), (0, .ref o)]) hx hb dX6_saves_50 rfl hl (by decide) rfl (fun ls hl => ?_)
    have ec_i51_aV : V = fCp S (V) (96 * n) 0 := by rfl
    have ew_i51 : ([(o, .inr (4, [.int th, .ref aS, .ref aA, .ref aV, .int (nI n), .ref aB, .int ln, .int at_, .int wl, .ref aR, .int rm, .int ga, .int fi, .int se, .int ex, .long ha])), (aS, .inl (cI, 96, .inl S)), (aV, .inl (cI, 576, .inl V))] : va_W) = [(o, .inr (4, [.int th, .ref aS, .ref aA, .ref aV, .int (nI n), .ref aB, .int ln, .int at_, .int wl, .ref aR, .int rm, .int ga, .int fi, .int se, .int ex, .long ha])), (aS, .inl (cI, 96, .inl S)), (aV, .inl (cI, 576, .inl (fCp S (V) (96 * n) 0)))] := (congrArg (fun z_ => ([(o, .inr (4, [.int th, .ref aS, .ref aA, .ref aV, .int (nI n), .ref aB, .int ln, .int at_, .int wl, .ref aR, .int rm, .int ga, .int fi, .int se, .int ex, .long ha])), (aS, .inl (cI, 96, .inl S)), (aV, .inl (cI, 576, .inl z_))] : va_W)) ec_i51_aV)
    have hI0 : (fun (j : Nat) ls H locs => (j ≤ 96) ∧ (va_P (dC, dI) vwCl [(o, .inr (4, [.int th, .ref aS, .ref aA, .ref aV, .int (nI n), .ref aB, .int ln, .int at_, .int wl, .ref aR, .int rm, .int ga, .int fi, .int se, .int ex, .long ha])), (aS, .inl (cI, 96, .inl S)), (aV, .inl (cI, 576, .inl (fCp S (V) (96 * n) j)))] H) ∧ (va_D A [(o, .inr (4, [.int th, .ref aS, .ref aA, .ref aV, .int (nI n), .ref aB, .int ln, .int at_, .int wl, .ref aR, .int rm, .int ga, .int fi, .int se, .int ex, .long ha])), (aS, .inl (cI, 96, .inl S)), (aV, .inl (cI, 576, .inl (fCp S (V) (96 * n) j)))]) ∧ (va_S A s.heap H locs) ∧ (lv_has ls 2 [(0, .ref o), (1, .int (nI j))])) 0 ls H locs := ⟨by omega, (w_cgP ew_i51 hP), (w_cgD ew_i51 hD), hS, lv_sub hl [1, 0] rfl⟩
    clear hl hP hD hS
    revert ls
    revert locs
    revert H
    refine lp_H (fun (j : Nat) ls H locs => (j ≤ 96) ∧ (va_P (dC, dI) vwCl [(o, .inr (4, [.int th, .ref aS, .ref aA, .ref aV, .int (nI n), .ref aB, .int ln, .int at_, .int wl, .ref aR, .int rm, .int ga, .int fi, .int se, .int ex, .long ha])), (aS, .inl (cI, 96, .inl S)), (aV, .inl (cI, 576, .inl (fCp S (V) (96 * n) j)))] H) ∧ (va_D A [(o, .inr (4, [.int th, .ref aS, .ref aA, .ref aV, .int (nI n), .ref aB, .int ln, .int at_, .int wl, .ref aR, .int rm, .int ga, .int fi, .int se, .int ex, .long ha])), (aS, .inl (cI, 96, .inl S)), (aV, .inl (cI, 576, .inl (fCp S (V) (96 * n) j)))]) ∧ (va_S A s.heap H locs) ∧ (lv_has ls 2 [(0, .ref o), (1, .int (nI j))])) (fun (j : Nat) => 96 - j) 0 (fun q_ H locs ls hI ih51 => ?_)
    obtain ⟨j, rfl⟩ : ∃ z, z = q_ := ⟨_, rfl⟩
    obtain ⟨hj, hP, hD, hS, hl⟩ := hI
    refine lv_iload_n hx hb dX6_saves_51 rfl (lv_at hl 1 rfl) ?_
    refine lv_bipush (v := (nI 96)) hx hb dX6_saves_52 (by decide) ?_
    refine n_icmp_ge (tgt := 83) hx hb dX6_saves_54 (by decide) (by omega) (by omega) (fun c_54 => ?_) (fun c_54 => ?_)
    · obtain rfl : j = 96 := by omega
      refine lv_aload_n hx hb dX6_saves_83 rfl (lv_at hl 0 rfl) ?_
      refine lv_dup hx hb dX6_saves_84 rfl ?_
      refine va_get (D := (dC, dI)) (ci := 4) (v := .int (nI n)) (C := RX6) (T := TX6) (N := 16) hx hb hts hiX6 hown hK hP 0 rfl rfl 4 (by decide) hf33 (fun _ h9 => h9) rfl dX6_saves_85 ?_
      refine lv_iconst (v := (nI 1)) hx hb dX6_saves_88 (by decide) ?_
      refine n_iadd hx hb dX6_saves_89 ?_
      refine va_put (D := (dC, dI)) (ci := 4) (v := .int (nI (n + 1))) (ty := .int) (C := RX6) (T := TX6) (N := 16) hx hb hts hiX6 tyX6 tyX6_ok nmX6 hown hK hP hD hS 0 rfl rfl 4 (by decide) hf33 (fun _ h9 => h9) rfl (by decide +kernel) rfl rfl (Nat.le_of_ble_eq_true rfl) dX6_saves_90 (fun H locs hP hD hS => ?_)
      replace hP : va_P (dC, dI) vwCl [(o, .inr (4, [.int th, .ref aS, .ref aA, .ref aV, .int (nI (n + 1)), .ref aB, .int ln, .int at_, .int wl, .ref aR, .int rm, .int ga, .int fi, .int se, .int ex, .long ha])), (aS, .inl (cI, 96, .inl S)), (aV, .inl (cI, 576, .inl (fCp S (V) (96 * n) 96)))] H := hP
      replace hD : va_D A [(o, .inr (4, [.int th, .ref aS, .ref aA, .ref aV, .int (nI (n + 1)), .ref aB, .int ln, .int at_, .int wl, .ref aR, .int rm, .int ga, .int fi, .int se, .int ex, .long ha])), (aS, .inl (cI, 96, .inl S)), (aV, .inl (cI, 576, .inl (fCp S (V) (96 * n) 96)))] := hD
      have ec_r93_1_o_4 : (nI (n + 1)) = (nI (svN n)) := by first | rfl | (simp [svV, svN, c_6, c_54, Nat.not_lt.mpr c_54]; done)
      have ec_r93_1_aV : fCp S (V) (96 * n) 96 = svV S V n := by first | rfl | (simp [svV, svN, c_6, c_54, Nat.not_lt.mpr c_54]; done)
      have ew_r93_1 : ([(o, .inr (4, [.int th, .ref aS, .ref aA, .ref aV, .int (nI (n + 1)), .ref aB, .int ln, .int at_, .int wl, .ref aR, .int rm, .int ga, .int fi, .int se, .int ex, .long ha])), (aS, .inl (cI, 96, .inl S)), (aV, .inl (cI, 576, .inl (fCp S (V) (96 * n) 96)))] : va_W) = [(o, .inr (4, [.int th, .ref aS, .ref aA, .ref aV, .int (nI (svN n)), .ref aB, .int ln, .int at_, .int wl, .ref aR, .int rm, .int ga, .int fi, .int se, .int ex, .long ha])), (aS, .inl (cI, 96, .inl S)), (aV, .inl (cI, 576, .inl (svV S V n)))] := ((congrArg (fun z_ => ([(o, .inr (4, [.int th, .ref aS, .ref aA, .ref aV, .int z_, .ref aB, .int ln, .int at_, .int wl, .ref aR, .int rm, .int ga, .int fi, .int se, .int ex, .long ha])), (aS, .inl (cI, 96, .inl S)), (aV, .inl (cI, 576, .inl (fCp S (V) (96 * n) 96)))] : va_W)) ec_r93_1_o_4).trans (congrArg (fun z_ => ([(o, .inr (4, [.int th, .ref aS, .ref aA, .ref aV, .int (nI (svN n)), .ref aB, .int ln, .int at_, .int wl, .ref aR, .int rm, .int ga, .int fi, .int se, .int ex, .long ha])), (aS, .inl (cI, 96, .inl S)), (aV, .inl (cI, 576, .inl z_))] : va_W)) ec_r93_1_aV))
      have hP9 := (w_cgP ew_r93_1 hP)
      have hD9 := (w_cgD ew_r93_1 hD)
      exact W.vret hx hb hr (fun t ht hW => ⟨⟨(), rfl, trivial, by rw [ht]; exact hP9, va_K.moved hW.alike hK, hD9⟩, hS.F ht⟩) hS.2.2 dX6_saves_93
    · refine lv_aload_n hx hb dX6_saves_57 rfl (lv_at hl 0 rfl) ?_
      refine va_get (D := (dC, dI)) (ci := 4) (v := .ref aV) (C := RX6) (T := TX6) (N := 16) hx hb hts hiX6 hown hK hP 0 rfl rfl 3 (by decide) hf16 (fun _ h9 => h9) rfl dX6_saves_58 ?_
      refine lv_bipush (v := (nI 96)) hx hb dX6_saves_61 (by decide) ?_
      refine lv_aload_n hx hb dX6_saves_63 rfl (lv_at hl 0 rfl) ?_
      refine va_get (D := (dC, dI)) (ci := 4) (v := .int (nI n)) (C := RX6) (T := TX6) (N := 16) hx hb hts hiX6 hown hK hP 0 rfl rfl 4 (by decide) hf33 (fun _ h9 => h9) rfl dX6_saves_64 ?_
      refine n_imul hx hb dX6_saves_67 ?_
      refine lv_iload_n hx hb dX6_saves_68 rfl (lv_at hl 1 rfl) ?_
      refine n_iadd hx hb dX6_saves_69 ?_
      refine lv_aload_n hx hb dX6_saves_70 rfl (lv_at hl 0 rfl) ?_
      refine va_get (D := (dC, dI)) (ci := 4) (v := .ref aS) (C := RX6) (T := TX6) (N := 16) hx hb hts hiX6 hown hK hP 0 rfl rfl 1 (by decide) hf7 (fun _ h9 => h9) rfl dX6_saves_71 ?_
      refine lv_iload_n hx hb dX6_saves_74 rfl (lv_at hl 1 rfl) ?_
      refine n_iald hx hb hK hP 1 0 rfl rfl (show j < 96 from by omega) (by decide) dX6_saves_75 ?_
      refine n_iast hx hb hK hP hD hS 2 0 rfl rfl (show (96 * n) + j < 576 from by omega) (by decide) dX6_saves_76 (fun H locs hP hD hS => ?_)
      replace hP : va_P (dC, dI) vwCl [(o, .inr (4, [.int th, .ref aS, .ref aA, .ref aV, .int (nI n), .ref aB, .int ln, .int at_, .int wl, .ref aR, .int rm, .int ga, .int fi, .int se, .int ex, .long ha])), (aS, .inl (cI, 96, .inl S)), (aV, .inl (cI, 576, .inl (upd (fCp S (V) (96 * n) j) ((96 * n) + j) (S j))))] H := hP
      replace hD : va_D A [(o, .inr (4, [.int th, .ref aS, .ref aA, .ref aV, .int (nI n), .ref aB, .int ln, .int at_, .int wl, .ref aR, .int rm, .int ga, .int fi, .int se, .int ex, .long ha])), (aS, .inl (cI, 96, .inl S)), (aV, .inl (cI, 576, .inl (upd (fCp S (V) (96 * n) j) ((96 * n) + j) (S j))))] := hD
      refine lv_iinc (v := (nI (j + 1))) (lv' := [(1, .int (nI (j + 1))), (0, .ref o)]) hx hb dX6_saves_77 hl (k := 1) rfl (n_inc _ 1) (by decide) rfl (fun ls hl => ?_)
      refine lv_goto (tgt := 51) hx hb dX6_saves_80 (by decide) ?_
      have ec_b51_2_aV : upd (fCp S (V) (96 * n) j) ((96 * n) + j) (S j) = fCp S (V) (96 * n) (j + 1) := by rfl
      have ew_b51_2 : ([(o, .inr (4, [.int th, .ref aS, .ref aA, .ref aV, .int (nI n), .ref aB, .int ln, .int at_, .int wl, .ref aR, .int rm, .int ga, .int fi, .int se, .int ex, .long ha])), (aS, .inl (cI, 96, .inl S)), (aV, .inl (cI, 576, .inl (upd (fCp S (V) (96 * n) j) ((96 * n) + j) (S j))))] : va_W) = [(o, .inr (4, [.int th, .ref aS, .ref aA, .ref aV, .int (nI n), .ref aB, .int ln, .int at_, .int wl, .ref aR, .int rm, .int ga, .int fi, .int se, .int ex, .long ha])), (aS, .inl (cI, 96, .inl S)), (aV, .inl (cI, 576, .inl (fCp S (V) (96 * n) (j + 1))))] := (congrArg (fun z_ => ([(o, .inr (4, [.int th, .ref aS, .ref aA, .ref aV, .int (nI n), .ref aB, .int ln, .int at_, .int wl, .ref aR, .int rm, .int ga, .int fi, .int se, .int ex, .long ha])), (aS, .inl (cI, 96, .inl S)), (aV, .inl (cI, 576, .inl z_))] : va_W)) ec_b51_2_aV)
      exact ih51 (j + 1) H locs ls ⟨by omega, (w_cgP ew_b51_2 hP), (w_cgD ew_b51_2 hD), hS, lv_sub hl [1, 0] rfl⟩ (by first | omega | (dsimp only; omega))
  · subst c_6
    refine lv_iconst (v := (nI 0)) hx hb dX6_saves_9 (by decide) ?_
    refine lv_istore_n (lv' := [(1, .int (nI 0)), (0, .ref o)]) hx hb dX6_saves_10 rfl hl (by decide) rfl (fun ls hl => ?_)
    have ec_i11_aV : V = fSh V 0 := by rfl
    have ew_i11 : ([(o, .inr (4, [.int th, .ref aS, .ref aA, .ref aV, .int (nI 6), .ref aB, .int ln, .int at_, .int wl, .ref aR, .int rm, .int ga, .int fi, .int se, .int ex, .long ha])), (aS, .inl (cI, 96, .inl S)), (aV, .inl (cI, 576, .inl V))] : va_W) = [(o, .inr (4, [.int th, .ref aS, .ref aA, .ref aV, .int (nI 6), .ref aB, .int ln, .int at_, .int wl, .ref aR, .int rm, .int ga, .int fi, .int se, .int ex, .long ha])), (aS, .inl (cI, 96, .inl S)), (aV, .inl (cI, 576, .inl (fSh V 0)))] := (congrArg (fun z_ => ([(o, .inr (4, [.int th, .ref aS, .ref aA, .ref aV, .int (nI 6), .ref aB, .int ln, .int at_, .int wl, .ref aR, .int rm, .int ga, .int fi, .int se, .int ex, .long ha])), (aS, .inl (cI, 96, .inl S)), (aV, .inl (cI, 576, .inl z_))] : va_W)) ec_i11_aV)
    have hI0 : (fun (i : Nat) ls H locs => (i ≤ 480) ∧ (va_P (dC, dI) vwCl [(o, .inr (4, [.int th, .ref aS, .ref aA, .ref aV, .int (nI 6), .ref aB, .int ln, .int at_, .int wl, .ref aR, .int rm, .int ga, .int fi, .int se, .int ex, .long ha])), (aS, .inl (cI, 96, .inl S)), (aV, .inl (cI, 576, .inl (fSh V i)))] H) ∧ (va_D A [(o, .inr (4, [.int th, .ref aS, .ref aA, .ref aV, .int (nI 6), .ref aB, .int ln, .int at_, .int wl, .ref aR, .int rm, .int ga, .int fi, .int se, .int ex, .long ha])), (aS, .inl (cI, 96, .inl S)), (aV, .inl (cI, 576, .inl (fSh V i)))]) ∧ (va_S A s.heap H locs) ∧ (lv_has ls 2 [(0, .ref o), (1, .int (nI i))])) 0 ls H locs := ⟨by omega, (w_cgP ew_i11 hP), (w_cgD ew_i11 hD), hS, lv_sub hl [1, 0] rfl⟩
    clear hl hP hD hS
    revert ls
    revert locs
    revert H
    refine lp_H (fun (i : Nat) ls H locs => (i ≤ 480) ∧ (va_P (dC, dI) vwCl [(o, .inr (4, [.int th, .ref aS, .ref aA, .ref aV, .int (nI 6), .ref aB, .int ln, .int at_, .int wl, .ref aR, .int rm, .int ga, .int fi, .int se, .int ex, .long ha])), (aS, .inl (cI, 96, .inl S)), (aV, .inl (cI, 576, .inl (fSh V i)))] H) ∧ (va_D A [(o, .inr (4, [.int th, .ref aS, .ref aA, .ref aV, .int (nI 6), .ref aB, .int ln, .int at_, .int wl, .ref aR, .int rm, .int ga, .int fi, .int se, .int ex, .long ha])), (aS, .inl (cI, 96, .inl S)), (aV, .inl (cI, 576, .inl (fSh V i)))]) ∧ (va_S A s.heap H locs) ∧ (lv_has ls 2 [(0, .ref o), (1, .int (nI i))])) (fun (i : Nat) => 480 - i) 0 (fun q_ H locs ls hI ih11 => ?_)
    obtain ⟨i, rfl⟩ : ∃ z, z = q_ := ⟨_, rfl⟩
    obtain ⟨hi, hP, hD, hS, hl⟩ := hI
    refine lv_iload_n hx hb dX6_saves_11 rfl (lv_at hl 1 rfl) ?_
    refine lv_sipush (v := (nI 480)) hx hb dX6_saves_12 (by decide) ?_
    refine n_icmp_ge (tgt := 39) hx hb dX6_saves_15 (by decide) (by omega) (by omega) (fun c_15 => ?_) (fun c_15 => ?_)
    · obtain rfl : i = 480 := by omega
      refine lv_aload_n hx hb dX6_saves_39 rfl (lv_at hl 0 rfl) ?_
      refine lv_dup hx hb dX6_saves_40 rfl ?_
      refine va_get (D := (dC, dI)) (ci := 4) (v := .int (nI 6)) (C := RX6) (T := TX6) (N := 16) hx hb hts hiX6 hown hK hP 0 rfl rfl 4 (by decide) hf33 (fun _ h9 => h9) rfl dX6_saves_41 ?_
      refine lv_iconst (v := (nI 1)) hx hb dX6_saves_44 (by decide) ?_
      refine n_isub hx hb dX6_saves_45 (by decide) ?_
      refine va_put (D := (dC, dI)) (ci := 4) (v := .int (nI 5)) (ty := .int) (C := RX6) (T := TX6) (N := 16) hx hb hts hiX6 tyX6 tyX6_ok nmX6 hown hK hP hD hS 0 rfl rfl 4 (by decide) hf33 (fun _ h9 => h9) rfl (by decide +kernel) rfl rfl (Nat.le_of_ble_eq_true rfl) dX6_saves_46 (fun H locs hP hD hS => ?_)
      replace hP : va_P (dC, dI) vwCl [(o, .inr (4, [.int th, .ref aS, .ref aA, .ref aV, .int (nI 5), .ref aB, .int ln, .int at_, .int wl, .ref aR, .int rm, .int ga, .int fi, .int se, .int ex, .long ha])), (aS, .inl (cI, 96, .inl S)), (aV, .inl (cI, 576, .inl (fSh V 480)))] H := hP
      replace hD : va_D A [(o, .inr (4, [.int th, .ref aS, .ref aA, .ref aV, .int (nI 5), .ref aB, .int ln, .int at_, .int wl, .ref aR, .int rm, .int ga, .int fi, .int se, .int ex, .long ha])), (aS, .inl (cI, 96, .inl S)), (aV, .inl (cI, 576, .inl (fSh V 480)))] := hD
      refine lv_iconst (v := (nI 0)) hx hb dX6_saves_49 (by decide) ?_
      refine lv_istore_n (lv' := [(1, .int (nI 0)), (0, .ref o)]) hx hb dX6_saves_50 rfl hl (by decide) rfl (fun ls hl => ?_)
      have ec_i51_aV : fSh V 480 = fCp S (fSh V 480) (96 * 5) 0 := by rfl
      have ew_i51 : ([(o, .inr (4, [.int th, .ref aS, .ref aA, .ref aV, .int (nI 5), .ref aB, .int ln, .int at_, .int wl, .ref aR, .int rm, .int ga, .int fi, .int se, .int ex, .long ha])), (aS, .inl (cI, 96, .inl S)), (aV, .inl (cI, 576, .inl (fSh V 480)))] : va_W) = [(o, .inr (4, [.int th, .ref aS, .ref aA, .ref aV, .int (nI 5), .ref aB, .int ln, .int at_, .int wl, .ref aR, .int rm, .int ga, .int fi, .int se, .int ex, .long ha])), (aS, .inl (cI, 96, .inl S)), (aV, .inl (cI, 576, .inl (fCp S (fSh V 480) (96 * 5) 0)))] := (congrArg (fun z_ => ([(o, .inr (4, [.int th, .ref aS, .ref aA, .ref aV, .int (nI 5), .ref aB, .int ln, .int at_, .int wl, .ref aR, .int rm, .int ga, .int fi, .int se, .int ex, .long ha])), (aS, .inl (cI, 96, .inl S)), (aV, .inl (cI, 576, .inl z_))] : va_W)) ec_i51_aV)
      have hI0 : (fun (j : Nat) ls H locs => (j ≤ 96) ∧ (va_P (dC, dI) vwCl [(o, .inr (4, [.int th, .ref aS, .ref aA, .ref aV, .int (nI 5), .ref aB, .int ln, .int at_, .int wl, .ref aR, .int rm, .int ga, .int fi, .int se, .int ex, .long ha])), (aS, .inl (cI, 96, .inl S)), (aV, .inl (cI, 576, .inl (fCp S (fSh V 480) (96 * 5) j)))] H) ∧ (va_D A [(o, .inr (4, [.int th, .ref aS, .ref aA, .ref aV, .int (nI 5), .ref aB, .int ln, .int at_, .int wl, .ref aR, .int rm, .int ga, .int fi, .int se, .int ex, .long ha])), (aS, .inl (cI, 96, .inl S)), (aV, .inl (cI, 576, .inl (fCp S (fSh V 480) (96 * 5) j)))]) ∧ (va_S A s.heap H locs) ∧ (lv_has ls 2 [(0, .ref o), (1, .int (nI j))])) 0 ls H locs := ⟨by omega, (w_cgP ew_i51 hP), (w_cgD ew_i51 hD), hS, lv_sub hl [1, 0] rfl⟩
      clear hl hP hD hS
      revert ls
      revert locs
      revert H
      refine lp_H (fun (j : Nat) ls H locs => (j ≤ 96) ∧ (va_P (dC, dI) vwCl [(o, .inr (4, [.int th, .ref aS, .ref aA, .ref aV, .int (nI 5), .ref aB, .int ln, .int at_, .int wl, .ref aR, .int rm, .int ga, .int fi, .int se, .int ex, .long ha])), (aS, .inl (cI, 96, .inl S)), (aV, .inl (cI, 576, .inl (fCp S (fSh V 480) (96 * 5) j)))] H) ∧ (va_D A [(o, .inr (4, [.int th, .ref aS, .ref aA, .ref aV, .int (nI 5), .ref aB, .int ln, .int at_, .int wl, .ref aR, .int rm, .int ga, .int fi, .int se, .int ex, .long ha])), (aS, .inl (cI, 96, .inl S)), (aV, .inl (cI, 576, .inl (fCp S (fSh V 480) (96 * 5) j)))]) ∧ (va_S A s.heap H locs) ∧ (lv_has ls 2 [(0, .ref o), (1, .int (nI j))])) (fun (j : Nat) => 96 - j) 0 (fun q_ H locs ls hI ih51 => ?_)
      obtain ⟨j, rfl⟩ : ∃ z, z = q_ := ⟨_, rfl⟩
      obtain ⟨hj, hP, hD, hS, hl⟩ := hI
      refine lv_iload_n hx hb dX6_saves_51 rfl (lv_at hl 1 rfl) ?_
      refine lv_bipush (v := (nI 96)) hx hb dX6_saves_52 (by decide) ?_
      refine n_icmp_ge (tgt := 83) hx hb dX6_saves_54 (by decide) (by omega) (by omega) (fun c_54 => ?_) (fun c_54 => ?_)
      · obtain rfl : j = 96 := by omega
        refine lv_aload_n hx hb dX6_saves_83 rfl (lv_at hl 0 rfl) ?_
        refine lv_dup hx hb dX6_saves_84 rfl ?_
        refine va_get (D := (dC, dI)) (ci := 4) (v := .int (nI 5)) (C := RX6) (T := TX6) (N := 16) hx hb hts hiX6 hown hK hP 0 rfl rfl 4 (by decide) hf33 (fun _ h9 => h9) rfl dX6_saves_85 ?_
        refine lv_iconst (v := (nI 1)) hx hb dX6_saves_88 (by decide) ?_
        refine n_iadd hx hb dX6_saves_89 ?_
        refine va_put (D := (dC, dI)) (ci := 4) (v := .int (nI 6)) (ty := .int) (C := RX6) (T := TX6) (N := 16) hx hb hts hiX6 tyX6 tyX6_ok nmX6 hown hK hP hD hS 0 rfl rfl 4 (by decide) hf33 (fun _ h9 => h9) rfl (by decide +kernel) rfl rfl (Nat.le_of_ble_eq_true rfl) dX6_saves_90 (fun H locs hP hD hS => ?_)
        replace hP : va_P (dC, dI) vwCl [(o, .inr (4, [.int th, .ref aS, .ref aA, .ref aV, .int (nI 6), .ref aB, .int ln, .int at_, .int wl, .ref aR, .int rm, .int ga, .int fi, .int se, .int ex, .long ha])), (aS, .inl (cI, 96, .inl S)), (aV, .inl (cI, 576, .inl (fCp S (fSh V 480) (96 * 5) 96)))] H := hP
        replace hD : va_D A [(o, .inr (4, [.int th, .ref aS, .ref aA, .ref aV, .int (nI 6), .ref aB, .int ln, .int at_, .int wl, .ref aR, .int rm, .int ga, .int fi, .int se, .int ex, .long ha])), (aS, .inl (cI, 96, .inl S)), (aV, .inl (cI, 576, .inl (fCp S (fSh V 480) (96 * 5) 96)))] := hD
        have ec_r93_3_o_4 : (nI 6) = (nI (svN 6)) := by first | rfl | (simp [svV, svN, c_15, Nat.not_lt.mpr c_15, c_54, Nat.not_lt.mpr c_54]; done)
        have ec_r93_3_aV : fCp S (fSh V 480) (96 * 5) 96 = svV S V 6 := by first | rfl | (simp [svV, svN, c_15, Nat.not_lt.mpr c_15, c_54, Nat.not_lt.mpr c_54]; done)
        have ew_r93_3 : ([(o, .inr (4, [.int th, .ref aS, .ref aA, .ref aV, .int (nI 6), .ref aB, .int ln, .int at_, .int wl, .ref aR, .int rm, .int ga, .int fi, .int se, .int ex, .long ha])), (aS, .inl (cI, 96, .inl S)), (aV, .inl (cI, 576, .inl (fCp S (fSh V 480) (96 * 5) 96)))] : va_W) = [(o, .inr (4, [.int th, .ref aS, .ref aA, .ref aV, .int (nI (svN 6)), .ref aB, .int ln, .int at_, .int wl, .ref aR, .int rm, .int ga, .int fi, .int se, .int ex, .long ha])), (aS, .inl (cI, 96, .inl S)), (aV, .inl (cI, 576, .inl (svV S V 6)))] := ((congrArg (fun z_ => ([(o, .inr (4, [.int th, .ref aS, .ref aA, .ref aV, .int z_, .ref aB, .int ln, .int at_, .int wl, .ref aR, .int rm, .int ga, .int fi, .int se, .int ex, .long ha])), (aS, .inl (cI, 96, .inl S)), (aV, .inl (cI, 576, .inl (fCp S (fSh V 480) (96 * 5) 96)))] : va_W)) ec_r93_3_o_4).trans (congrArg (fun z_ => ([(o, .inr (4, [.int th, .ref aS, .ref aA, .ref aV, .int (nI (svN 6)), .ref aB, .int ln, .int at_, .int wl, .ref aR, .int rm, .int ga, .int fi, .int se, .int ex, .long ha])), (aS, .inl (cI, 96, .inl S)), (aV, .inl (cI, 576, .inl z_))] : va_W)) ec_r93_3_aV))
        have hP9 := (w_cgP ew_r93_3 hP)
        have hD9 := (w_cgD ew_r93_3 hD)
        exact W.vret hx hb hr (fun t ht hW => ⟨⟨(), rfl, trivial, by rw [ht]; exact hP9, va_K.moved hW.alike hK, hD9⟩, hS.F ht⟩) hS.2.2 dX6_saves_93
      · refine lv_aload_n hx hb dX6_saves_57 rfl (lv_at hl 0 rfl) ?_
        refine va_get (D := (dC, dI)) (ci := 4) (v := .ref aV) (C := RX6) (T := TX6) (N := 16) hx hb hts hiX6 hown hK hP 0 rfl rfl 3 (by decide) hf16 (fun _ h9 => h9) rfl dX6_saves_58 ?_
        refine lv_bipush (v := (nI 96)) hx hb dX6_saves_61 (by decide) ?_
        refine lv_aload_n hx hb dX6_saves_63 rfl (lv_at hl 0 rfl) ?_
        refine va_get (D := (dC, dI)) (ci := 4) (v := .int (nI 5)) (C := RX6) (T := TX6) (N := 16) hx hb hts hiX6 hown hK hP 0 rfl rfl 4 (by decide) hf33 (fun _ h9 => h9) rfl dX6_saves_64 ?_
        refine n_imul hx hb dX6_saves_67 ?_
        refine lv_iload_n hx hb dX6_saves_68 rfl (lv_at hl 1 rfl) ?_
        refine n_iadd hx hb dX6_saves_69 ?_
        refine lv_aload_n hx hb dX6_saves_70 rfl (lv_at hl 0 rfl) ?_
        refine va_get (D := (dC, dI)) (ci := 4) (v := .ref aS) (C := RX6) (T := TX6) (N := 16) hx hb hts hiX6 hown hK hP 0 rfl rfl 1 (by decide) hf7 (fun _ h9 => h9) rfl dX6_saves_71 ?_
        refine lv_iload_n hx hb dX6_saves_74 rfl (lv_at hl 1 rfl) ?_
        refine n_iald hx hb hK hP 1 0 rfl rfl (show j < 96 from by omega) (by decide) dX6_saves_75 ?_
        refine n_iast hx hb hK hP hD hS 2 0 rfl rfl (show 480 + j < 576 from by omega) (by decide) dX6_saves_76 (fun H locs hP hD hS => ?_)
        replace hP : va_P (dC, dI) vwCl [(o, .inr (4, [.int th, .ref aS, .ref aA, .ref aV, .int (nI 5), .ref aB, .int ln, .int at_, .int wl, .ref aR, .int rm, .int ga, .int fi, .int se, .int ex, .long ha])), (aS, .inl (cI, 96, .inl S)), (aV, .inl (cI, 576, .inl (upd (fCp S (fSh V 480) (96 * 5) j) (480 + j) (S j))))] H := hP
        replace hD : va_D A [(o, .inr (4, [.int th, .ref aS, .ref aA, .ref aV, .int (nI 5), .ref aB, .int ln, .int at_, .int wl, .ref aR, .int rm, .int ga, .int fi, .int se, .int ex, .long ha])), (aS, .inl (cI, 96, .inl S)), (aV, .inl (cI, 576, .inl (upd (fCp S (fSh V 480) (96 * 5) j) (480 + j) (S j))))] := hD
        refine lv_iinc (v := (nI (j + 1))) (lv' := [(1, .int (nI (j + 1))), (0, .ref o)]) hx hb dX6_saves_77 hl (k := 1) rfl (n_inc _ 1) (by decide) rfl (fun ls hl => ?_)
        refine lv_goto (tgt := 51) hx hb dX6_saves_80 (by decide) ?_
        have ec_b51_4_aV : upd (fCp S (fSh V 480) (96 * 5) j) (480 + j) (S j) = fCp S (fSh V 480) (96 * 5) (j + 1) := by rfl
        have ew_b51_4 : ([(o, .inr (4, [.int th, .ref aS, .ref aA, .ref aV, .int (nI 5), .ref aB, .int ln, .int at_, .int wl, .ref aR, .int rm, .int ga, .int fi, .int se, .int ex, .long ha])), (aS, .inl (cI, 96, .inl S)), (aV, .inl (cI, 576, .inl (upd (fCp S (fSh V 480) (96 * 5) j) (480 + j) (S j))))] : va_W) = [(o, .inr (4, [.int th, .ref aS, .ref aA, .ref aV, .int (nI 5), .ref aB, .int ln, .int at_, .int wl, .ref aR, .int rm, .int ga, .int fi, .int se, .int ex, .long ha])), (aS, .inl (cI, 96, .inl S)), (aV, .inl (cI, 576, .inl (fCp S (fSh V 480) (96 * 5) (j + 1))))] := (congrArg (fun z_ => ([(o, .inr (4, [.int th, .ref aS, .ref aA, .ref aV, .int (nI 5), .ref aB, .int ln, .int at_, .int wl, .ref aR, .int rm, .int ga, .int fi, .int se, .int ex, .long ha])), (aS, .inl (cI, 96, .inl S)), (aV, .inl (cI, 576, .inl z_))] : va_W)) ec_b51_4_aV)
        exact ih51 (j + 1) H locs ls ⟨by omega, (w_cgP ew_b51_4 hP), (w_cgD ew_b51_4 hD), hS, lv_sub hl [1, 0] rfl⟩ (by first | omega | (dsimp only; omega))
    · refine lv_aload_n hx hb dX6_saves_18 rfl (lv_at hl 0 rfl) ?_
      refine va_get (D := (dC, dI)) (ci := 4) (v := .ref aV) (C := RX6) (T := TX6) (N := 16) hx hb hts hiX6 hown hK hP 0 rfl rfl 3 (by decide) hf16 (fun _ h9 => h9) rfl dX6_saves_19 ?_
      refine lv_iload_n hx hb dX6_saves_22 rfl (lv_at hl 1 rfl) ?_
      refine lv_aload_n hx hb dX6_saves_23 rfl (lv_at hl 0 rfl) ?_
      refine va_get (D := (dC, dI)) (ci := 4) (v := .ref aV) (C := RX6) (T := TX6) (N := 16) hx hb hts hiX6 hown hK hP 0 rfl rfl 3 (by decide) hf16 (fun _ h9 => h9) rfl dX6_saves_24 ?_
      refine lv_iload_n hx hb dX6_saves_27 rfl (lv_at hl 1 rfl) ?_
      refine lv_bipush (v := (nI 96)) hx hb dX6_saves_28 (by decide) ?_
      refine n_iadd hx hb dX6_saves_30 ?_
      refine n_iald hx hb hK hP 2 0 rfl rfl (show i + 96 < 576 from by omega) (by decide) dX6_saves_31 ?_
      refine n_iast hx hb hK hP hD hS 2 0 rfl rfl (show i < 576 from by omega) (by decide) dX6_saves_32 (fun H locs hP hD hS => ?_)
      replace hP : va_P (dC, dI) vwCl [(o, .inr (4, [.int th, .ref aS, .ref aA, .ref aV, .int (nI 6), .ref aB, .int ln, .int at_, .int wl, .ref aR, .int rm, .int ga, .int fi, .int se, .int ex, .long ha])), (aS, .inl (cI, 96, .inl S)), (aV, .inl (cI, 576, .inl (upd (fSh V i) i ((fSh V i) (i + 96)))))] H := hP
      replace hD : va_D A [(o, .inr (4, [.int th, .ref aS, .ref aA, .ref aV, .int (nI 6), .ref aB, .int ln, .int at_, .int wl, .ref aR, .int rm, .int ga, .int fi, .int se, .int ex, .long ha])), (aS, .inl (cI, 96, .inl S)), (aV, .inl (cI, 576, .inl (upd (fSh V i) i ((fSh V i) (i + 96)))))] := hD
      refine lv_iinc (v := (nI (i + 1))) (lv' := [(1, .int (nI (i + 1))), (0, .ref o)]) hx hb dX6_saves_33 hl (k := 1) rfl (n_inc _ 1) (by decide) rfl (fun ls hl => ?_)
      refine lv_goto (tgt := 11) hx hb dX6_saves_36 (by decide) ?_
      have ec_b11_5_aV : upd (fSh V i) i ((fSh V i) (i + 96)) = fSh V (i + 1) := by rfl
      have ew_b11_5 : ([(o, .inr (4, [.int th, .ref aS, .ref aA, .ref aV, .int (nI 6), .ref aB, .int ln, .int at_, .int wl, .ref aR, .int rm, .int ga, .int fi, .int se, .int ex, .long ha])), (aS, .inl (cI, 96, .inl S)), (aV, .inl (cI, 576, .inl (upd (fSh V i) i ((fSh V i) (i + 96)))))] : va_W) = [(o, .inr (4, [.int th, .ref aS, .ref aA, .ref aV, .int (nI 6), .ref aB, .int ln, .int at_, .int wl, .ref aR, .int rm, .int ga, .int fi, .int se, .int ex, .long ha])), (aS, .inl (cI, 96, .inl S)), (aV, .inl (cI, 576, .inl (fSh V (i + 1))))] := (congrArg (fun z_ => ([(o, .inr (4, [.int th, .ref aS, .ref aA, .ref aV, .int (nI 6), .ref aB, .int ln, .int at_, .int wl, .ref aR, .int rm, .int ga, .int fi, .int se, .int ex, .long ha])), (aS, .inl (cI, 96, .inl S)), (aV, .inl (cI, 576, .inl z_))] : va_W)) ec_b11_5_aV)
      exact ih11 (i + 1) H locs ls ⟨by omega, (w_cgP ew_b11_5 hP), (w_cgD ew_b11_5 hD), hS, lv_sub hl [1, 0] rfl⟩ (by first | omega | (dsimp only; omega))
theorem hdX6_isShelf : yX6_isShelf.cls ≠ "java/lang/invoke/MethodHandle" ∧ yX6_isShelf.cls ≠ "java/lang/invoke/VarHandle" ∧ (parseMethodDescriptor yX6_isShelf.desc).map (fun d => d.parameters.length) = some 1 := by decide +kernel
theorem hdX6_fails : yX6_fails.cls = RX6 ∧ yX6_fails.cls ≠ "java/lang/invoke/MethodHandle" ∧ yX6_fails.cls ≠ "java/lang/invoke/VarHandle" ∧ (parseMethodDescriptor yX6_fails.desc).map (fun d => d.parameters.length) = some 1 := by decide +kernel
theorem hdX6_saves : yX6_saves.cls = RX6 ∧ yX6_saves.cls ≠ "java/lang/invoke/MethodHandle" ∧ yX6_saves.cls ≠ "java/lang/invoke/VarHandle" ∧ (parseMethodDescriptor yX6_saves.desc).map (fun d => d.parameters.length) = some 0 := by decide +kernel
set_option maxHeartbeats 4000000 in
set_option maxRecDepth 100000 in
theorem kX6_setShelf (l : Launch) (dC : Nat → ClassId) (dI : Nat → Nat → Nat) (cI cV cW : ClassId) (sz : Nat) (o : Nat) (th : Int32) (aS : Nat) (aA : Nat) (aV : Nat) (aB : Nat) (ln : Int32) (at_ : Int32) (wl : Int32) (aR : Nat) (rm : Int32) (ga : Int32) (fi : Int32) (se : Int32) (ex : Int32) (ha : Int64) (S : Nat → Int32) (cn : Nat) (V : Nat → Int32) (n : Nat) (x : Int32) (y : Int32) (z : Int32) (hR : RO S cn) (hn : n ≤ 6) : Met l yX6_setShelf wsX6_setShelf ({ frames := 3, cells := 0, slots := 0, locals := 66 }) (pW (dC, dI) (tyS cI cV cW) sz [.ref o, .int x, .int y, .int z] [(o, .inr (4, [.int th, .ref aS, .ref aA, .ref aV, .int (nI n), .ref aB, .int ln, .int at_, .int wl, .ref aR, .int rm, .int ga, .int fi, .int se, .int ex, .long ha])), (aS, .inl (cI, 96, .inl S)), (aV, .inl (cI, 576, .inl V))]) (va_Qi (fun (r_ : Int32) (_ : Unit) => r_ = (if cdSet S cn x y z = 0 then sRm (fSet S (ix x) y z) cn (ix x) else 0)) (fun (_ : Unit) t => qB (dC, dI) (tyS cI cV cW) (va_A [(o, .inr (4, [.int th, .ref aS, .ref aA, .ref aV, .int (nI n), .ref aB, .int ln, .int at_, .int wl, .ref aR, .int rm, .int ga, .int fi, .int se, .int ex, .long ha])), (aS, .inl (cI, 96, .inl S)), (aV, .inl (cI, 576, .inl V))] sz) [(o, .inr (4, [.int (nI (cdSet S cn x y z)), .ref aS, .ref aA, .ref aV, .int (nI (if cdSet S cn x y z = 0 then svN n else n)), .ref aB, .int ln, .int at_, .int wl, .ref aR, .int rm, .int ga, .int fi, .int se, .int ex, .long ha])), (aS, .inl (cI, 96, .inl (if cdSet S cn x y z = 0 then fSet S (ix x) y z else S))), (aV, .inl (cI, 576, .inl (if cdSet S cn x y z = 0 then svV S V n else V)))] t) (va_A [(o, .inr (4, [.int th, .ref aS, .ref aA, .ref aV, .int (nI n), .ref aB, .int ln, .int at_, .int wl, .ref aR, .int rm, .int ga, .int fi, .int se, .int ex, .long ha])), (aS, .inl (cI, 96, .inl S)), (aV, .inl (cI, 576, .inl V))] sz)) 0 0 (va_A [(o, .inr (4, [.int th, .ref aS, .ref aA, .ref aV, .int (nI n), .ref aB, .int ln, .int at_, .int wl, .ref aR, .int rm, .int ga, .int fi, .int se, .int ex, .long ha])), (aS, .inl (cI, 96, .inl S)), (aV, .inl (cI, 576, .inl V))] sz) := by
  refine Met.ofW (cc := cX6_setShelf) (maxL := 4) (ret := (some .int)) (by decide) rfl ?_
  intro p e s m args below meth c s₁ B hml hv
  obtain ⟨rfl, hsz, hP, hK, hD0⟩ := hv
  have hx := B.exec
  have hb := B.bytes
  have hr := B.returns
  have hts := atoms_spec (ws := wsX6_setShelf) B.pre
  have hown : s.vm.findClass RX6 = some m.cls := findClass_of_methodNamed B.named
  have hlocks := B.notSynchronized
  subst hsz
  have hD := hD0.self (sz := s.heap.size)
  generalize hAe : va_A [(o, .inr (4, [.int th, .ref aS, .ref aA, .ref aV, .int (nI n), .ref aB, .int ln, .int at_, .int wl, .ref aR, .int rm, .int ga, .int fi, .int se, .int ex, .long ha])), (aS, .inl (cI, 96, .inl S)), (aV, .inl (cI, 576, .inl V))] s.heap.size = A at hD ⊢
  have hA : ∀ q : Nat, s.heap.size ≤ q → A q := fun q h => by rw [← hAe]; exact Or.inr h
  have hS : va_S A s.heap s.heap [] := va_S.rf
  refine w_gen hP hS (fun H locs hP hS => ?_)
  have hf25 := hts (.fieldLink RX6 25 "VaultShelvesModel" "thrown" "I") (by decide +kernel)
  have hf7 := hts (.fieldLink RX6 7 "VaultShelvesModel" "s" "[I") (by decide +kernel)
  have hiX6 : ∀ w ∈ u_ws RX6 TX6 16, w ∈ wsX6_setShelf := by decide +kernel
  have hl := lv_entry ([.ref o, .int x, .int y, .int z]) (n := 4) (Nat.le_of_ble_eq_true rfl)
  rw [lg_entry_eq]
  generalize (lg_sl ([.ref o, .int x, .int y, .int z]) ++ List.replicate (4 - (lg_sl ([.ref o, .int x, .int y, .int z])).length) Slot.unset).toArray = ls at hl ⊢
  replace hl : lv_has ls 4 [(0, .ref o), (1, .int x), (2, .int y), (3, .int z)] := hl
  have hc := hR.2.1
  refine lv_aload_n hx hb dX6_setShelf_0 rfl (lv_at hl 0 rfl) ?_
  refine lv_iconst (v := (nI 0)) hx hb dX6_setShelf_1 (by decide) ?_
  refine va_put (D := (dC, dI)) (ci := 4) (v := .int (nI 0)) (ty := .int) (C := RX6) (T := TX6) (N := 16) hx hb hts hiX6 tyX6 tyX6_ok nmX6 hown hK hP hD hS 0 rfl rfl 0 (by decide) hf25 (fun _ h9 => h9) rfl (by decide +kernel) rfl rfl (Nat.le_of_ble_eq_true rfl) dX6_setShelf_2 (fun H locs hP hD hS => ?_)
  replace hP : va_P (dC, dI) vwCl [(o, .inr (4, [.int (nI 0), .ref aS, .ref aA, .ref aV, .int (nI n), .ref aB, .int ln, .int at_, .int wl, .ref aR, .int rm, .int ga, .int fi, .int se, .int ex, .long ha])), (aS, .inl (cI, 96, .inl S)), (aV, .inl (cI, 576, .inl V))] H := hP
  replace hD : va_D A [(o, .inr (4, [.int (nI 0), .ref aS, .ref aA, .ref aV, .int (nI n), .ref aB, .int ln, .int at_, .int wl, .ref aR, .int rm, .int ga, .int fi, .int se, .int ex, .long ha])), (aS, .inl (cI, 96, .inl S)), (aV, .inl (cI, 576, .inl V))] := hD
  refine lv_iload_n hx hb dX6_setShelf_5 rfl (lv_at hl 1 rfl) ?_
  refine vp_callSi (W.runS (As := [.int x]) (rest := []) ⟨hx, hb, hml, hown, hts⟩ (kX6_isShelf l dC dI cI cV cW x) (va_cwS 1 hts gX6_setShelf_X6_isShelf rfl rfl rfl hdX6_isShelf ⟨Nat.le_of_ble_eq_true rfl, Nat.le_of_ble_eq_true rfl⟩) (pR_S hK hP [] rfl) rfl rfl hl.1 rfl (lv_room (Nat.le_of_ble_eq_true rfl)) dX6_setShelf_6 ⟨Nat.zero_le _, Nat.zero_le _⟩) (fun r_6 hr_ => ?_)
  subst hr_
  refine b_if_ne (tgt := 18) hx hb dX6_setShelf_9 (by decide) (fun c_9 => ?_) (fun c_9 => ?_)
  · obtain ⟨k, hk, rfl⟩ := sh_of c_9
    refine lv_iload_n hx hb dX6_setShelf_18 rfl (lv_at hl 2 rfl) ?_
    refine lv_bipush (v := (nI 10)) hx hb dX6_setShelf_19 (by decide) ?_
    refine lv_bipush (v := (nI 99)) hx hb dX6_setShelf_21 (by decide) ?_
    refine vp_callSi (W.runS (As := [.int y, .int (nI 10), .int (nI 99)]) (rest := []) ⟨hx, hb, hml, hown, hts⟩ (kX6_in l dC dI cI cV cW y 10 99) (va_cwS 3 hts gX6_setShelf_X6_in rfl rfl rfl hdX6_in ⟨Nat.le_of_ble_eq_true rfl, Nat.le_of_ble_eq_true rfl⟩) (pR_S hK hP [] rfl) rfl rfl hl.1 rfl (lv_room (Nat.le_of_ble_eq_true rfl)) dX6_setShelf_23 ⟨Nat.zero_le _, Nat.zero_le _⟩) (fun r_23 hr_ => ?_)
    subst hr_
    refine b_if_eq (tgt := 39) hx hb dX6_setShelf_26 (by decide) (fun c_26 => ?_) (fun c_26 => ?_)
    · refine lv_aload_n hx hb dX6_setShelf_39 rfl (lv_at hl 0 rfl) ?_
      refine lv_iconst (v := (nI 2)) hx hb dX6_setShelf_40 (by decide) ?_
      have hPc := hP.sub (ws' := [(o, .inr (4, [.int (nI 0), .ref aS, .ref aA, .ref aV, .int (nI n), .ref aB, .int ln, .int at_, .int wl, .ref aR, .int rm, .int ga, .int fi, .int se, .int ex, .long ha]))]) [0] rfl
      have hDc := hD.sub (ws' := [(o, .inr (4, [.int (nI 0), .ref aS, .ref aA, .ref aV, .int (nI n), .ref aB, .int ln, .int at_, .int wl, .ref aR, .int rm, .int ga, .int fi, .int se, .int ex, .long ha]))]) [0] (by decide) rfl
      have hFc := va_free (wc := [(o, .inr (4, [.int (nI 0), .ref aS, .ref aA, .ref aV, .int (nI n), .ref aB, .int ln, .int at_, .int wl, .ref aR, .int rm, .int ga, .int fi, .int se, .int ex, .long ha]))]) hD hS hA [0] rfl
      refine va_calli (va_runV (As := [.int (nI 2)]) (rest := []) ⟨hx, hb, hml, hown, hts⟩ (kX6_fails l dC dI cI cV cW H.size o 0 aS aA aV (nI n) aB ln at_ wl aR rm ga fi se ex ha 2) (cwV 1 hts gX6_setShelf_X6_fails rfl rfl rfl hdX6_fails ⟨Nat.le_of_ble_eq_true rfl, Nat.le_of_ble_eq_true rfl⟩) (pW_V hK hP hPc hDc 0 4 rfl rfl rfl) rfl rfl hl.1 rfl (lv_room (Nat.le_of_ble_eq_true rfl)) dX6_setShelf_41 ⟨Nat.zero_le _, Nat.zero_le _⟩) hS (fun q _ h => hFc q h) hFc (fun r_41 u_ t_ H1 locs ht_ hvm_ hw_ hB_ hz_ hk_ hS => ?_)
      obtain ⟨hP1, -, hD1⟩ := hB_
      rw [ht_] at hP1
      obtain ⟨hP, hD⟩ := va_join (wr := [(aS, .inl (cI, 96, .inl S)), (aV, .inl (cI, 576, .inl V))]) (w1 := [(o, .inr (4, [.int 2, .ref aS, .ref aA, .ref aV, .int (nI n), .ref aB, .int ln, .int at_, .int wl, .ref aR, .int rm, .int ga, .int fi, .int se, .int ex, .long ha]))]) hP hD [0] [1, 2] rfl rfl (by decide) (by decide) hk_ hFc hP1 hD1
      clear hP1 hD1 hPc hDc hFc hk_ hz_ hvm_ ht_
      generalize H1 = H at hP hS ⊢
      replace hP : va_P (dC, dI) vwCl [(o, .inr (4, [.int 2, .ref aS, .ref aA, .ref aV, .int (nI n), .ref aB, .int ln, .int at_, .int wl, .ref aR, .int rm, .int ga, .int fi, .int se, .int ex, .long ha])), (aS, .inl (cI, 96, .inl S)), (aV, .inl (cI, 576, .inl V))] H := hP.sub [2, 0, 1] rfl
      replace hD : va_D A [(o, .inr (4, [.int 2, .ref aS, .ref aA, .ref aV, .int (nI n), .ref aB, .int ln, .int at_, .int wl, .ref aR, .int rm, .int ga, .int fi, .int se, .int ex, .long ha])), (aS, .inl (cI, 96, .inl S)), (aV, .inl (cI, 576, .inl V))] := hD.sub [2, 0, 1] (by decide) rfl
      refine W.widen (k := 0) (n := 0) (Nat.le_refl 0) (Nat.le_refl 0) ?_
      have hw_ : r_41 = (nI 0) := hw_
      subst hw_
      have ec_r44_1_o_0 : 2 = (nI (cdSet S cn (nI k) y z)) := by first | rfl | (first | (simp [cdSet, fSet, c_9, c_26, ix_nI (show k < 2147483648 by omega)] <;> rfl))
      have ec_r44_1_o_4 : (nI n) = (nI (if cdSet S cn (nI k) y z = 0 then svN n else n)) := by first | rfl | (first | (simp [cdSet, fSet, c_9, c_26, ix_nI (show k < 2147483648 by omega)] <;> rfl))
      have ec_r44_1_aS : S = if cdSet S cn (nI k) y z = 0 then fSet S (ix (nI k)) y z else S := by first | rfl | (first | (simp [cdSet, fSet, c_9, c_26, ix_nI (show k < 2147483648 by omega)] <;> rfl))
      have ec_r44_1_aV : V = if cdSet S cn (nI k) y z = 0 then svV S V n else V := by first | rfl | (first | (simp [cdSet, fSet, c_9, c_26, ix_nI (show k < 2147483648 by omega)] <;> rfl))
      have ew_r44_1 : ([(o, .inr (4, [.int 2, .ref aS, .ref aA, .ref aV, .int (nI n), .ref aB, .int ln, .int at_, .int wl, .ref aR, .int rm, .int ga, .int fi, .int se, .int ex, .long ha])), (aS, .inl (cI, 96, .inl S)), (aV, .inl (cI, 576, .inl V))] : va_W) = [(o, .inr (4, [.int (nI (cdSet S cn (nI k) y z)), .ref aS, .ref aA, .ref aV, .int (nI (if cdSet S cn (nI k) y z = 0 then svN n else n)), .ref aB, .int ln, .int at_, .int wl, .ref aR, .int rm, .int ga, .int fi, .int se, .int ex, .long ha])), (aS, .inl (cI, 96, .inl (if cdSet S cn (nI k) y z = 0 then fSet S (ix (nI k)) y z else S))), (aV, .inl (cI, 576, .inl (if cdSet S cn (nI k) y z = 0 then svV S V n else V)))] := ((((congrArg (fun z_ => ([(o, .inr (4, [.int z_, .ref aS, .ref aA, .ref aV, .int (nI n), .ref aB, .int ln, .int at_, .int wl, .ref aR, .int rm, .int ga, .int fi, .int se, .int ex, .long ha])), (aS, .inl (cI, 96, .inl S)), (aV, .inl (cI, 576, .inl V))] : va_W)) ec_r44_1_o_0).trans (congrArg (fun z_ => ([(o, .inr (4, [.int (nI (cdSet S cn (nI k) y z)), .ref aS, .ref aA, .ref aV, .int z_, .ref aB, .int ln, .int at_, .int wl, .ref aR, .int rm, .int ga, .int fi, .int se, .int ex, .long ha])), (aS, .inl (cI, 96, .inl S)), (aV, .inl (cI, 576, .inl V))] : va_W)) ec_r44_1_o_4)).trans (congrArg (fun z_ => ([(o, .inr (4, [.int (nI (cdSet S cn (nI k) y z)), .ref aS, .ref aA, .ref aV, .int (nI (if cdSet S cn (nI k) y z = 0 then svN n else n)), .ref aB, .int ln, .int at_, .int wl, .ref aR, .int rm, .int ga, .int fi, .int se, .int ex, .long ha])), (aS, .inl (cI, 96, .inl z_)), (aV, .inl (cI, 576, .inl V))] : va_W)) ec_r44_1_aS)).trans (congrArg (fun z_ => ([(o, .inr (4, [.int (nI (cdSet S cn (nI k) y z)), .ref aS, .ref aA, .ref aV, .int (nI (if cdSet S cn (nI k) y z = 0 then svN n else n)), .ref aB, .int ln, .int at_, .int wl, .ref aR, .int rm, .int ga, .int fi, .int se, .int ex, .long ha])), (aS, .inl (cI, 96, .inl (if cdSet S cn (nI k) y z = 0 then fSet S (ix (nI k)) y z else S))), (aV, .inl (cI, 576, .inl z_))] : va_W)) ec_r44_1_aV))
      have hP9 := (w_cgP ew_r44_1 hP)
      have hD9 := (w_cgD ew_r44_1 hD)
      exact W.iret (v := (nI 0)) hx hb hr (fun t ht hW => ⟨⟨(nI 0), (), rfl, (show (nI 0) = (if cdSet S cn (nI k) y z = 0 then sRm (fSet S (ix (nI k)) y z) cn (ix (nI k)) else 0) from by first | rfl | (first | (simp [cdSet, fSet, c_9, c_26, ix_nI (show k < 2147483648 by omega)] <;> rfl))), by rw [ht]; exact hP9, va_K.moved hW.alike hK, hD9⟩, hS.F ht⟩) hS.2.2 dX6_setShelf_44
    · refine lv_iload_n hx hb dX6_setShelf_29 rfl (lv_at hl 3 rfl) ?_
      refine lv_iconst (v := (nI 1)) hx hb dX6_setShelf_30 (by decide) ?_
      refine lv_bipush (v := (nI 99)) hx hb dX6_setShelf_31 (by decide) ?_
      refine vp_callSi (W.runS (As := [.int z, .int (nI 1), .int (nI 99)]) (rest := []) ⟨hx, hb, hml, hown, hts⟩ (kX6_in l dC dI cI cV cW z 1 99) (va_cwS 3 hts gX6_setShelf_X6_in rfl rfl rfl hdX6_in ⟨Nat.le_of_ble_eq_true rfl, Nat.le_of_ble_eq_true rfl⟩) (pR_S hK hP [] rfl) rfl rfl hl.1 rfl (lv_room (Nat.le_of_ble_eq_true rfl)) dX6_setShelf_33 ⟨Nat.zero_le _, Nat.zero_le _⟩) (fun r_33 hr_ => ?_)
      subst hr_
      refine b_if_ne (tgt := 45) hx hb dX6_setShelf_36 (by decide) (fun c_36 => ?_) (fun c_36 => ?_)
      · refine lv_aload_n hx hb dX6_setShelf_45 rfl (lv_at hl 0 rfl) ?_
        refine lv_iload_n hx hb dX6_setShelf_46 rfl (lv_at hl 1 rfl) ?_
        refine vp_callSi (W.runV (As := [.int (nI k)]) (rest := []) ⟨hx, hb, hml, hown, hts⟩ (kX6_taken l dC dI cI cV cW o 0 aS aA aV (nI n) aB ln at_ wl aR rm ga fi se ex ha S cn (nI k) (hR)) (cwV 1 hts gX6_setShelf_X6_taken rfl rfl rfl hdX6_taken ⟨Nat.le_of_ble_eq_true rfl, Nat.le_of_ble_eq_true rfl⟩) (pR_V hK hP 0 4 rfl rfl rfl [0, 1] rfl) rfl rfl hl.1 rfl (lv_room (Nat.le_of_ble_eq_true rfl)) dX6_setShelf_47 ⟨Nat.zero_le _, Nat.zero_le _⟩) (fun r_47 hr_ => ?_)
        subst hr_
        refine lv_iload_n hx hb dX6_setShelf_50 rfl (lv_at hl 2 rfl) ?_
        refine lv_icmp_le (tgt := 60) hx hb dX6_setShelf_51 (by decide) (fun c_51 => ?_) (fun c_51 => ?_)
        · refine lv_aload_n hx hb dX6_setShelf_60 rfl (lv_at hl 0 rfl) ?_
          have hPc := hP.sub (ws' := [(o, .inr (4, [.int (nI 0), .ref aS, .ref aA, .ref aV, .int (nI n), .ref aB, .int ln, .int at_, .int wl, .ref aR, .int rm, .int ga, .int fi, .int se, .int ex, .long ha])), (aS, .inl (cI, 96, .inl S)), (aV, .inl (cI, 576, .inl V))]) [0, 1, 2] rfl
          have hDc := hD.sub (ws' := [(o, .inr (4, [.int (nI 0), .ref aS, .ref aA, .ref aV, .int (nI n), .ref aB, .int ln, .int at_, .int wl, .ref aR, .int rm, .int ga, .int fi, .int se, .int ex, .long ha])), (aS, .inl (cI, 96, .inl S)), (aV, .inl (cI, 576, .inl V))]) [0, 1, 2] (by decide) rfl
          have hFc := va_free (wc := [(o, .inr (4, [.int (nI 0), .ref aS, .ref aA, .ref aV, .int (nI n), .ref aB, .int ln, .int at_, .int wl, .ref aR, .int rm, .int ga, .int fi, .int se, .int ex, .long ha])), (aS, .inl (cI, 96, .inl S)), (aV, .inl (cI, 576, .inl V))]) hD hS hA [0, 1, 2] rfl
          refine va_callv (va_runV (As := []) (rest := []) ⟨hx, hb, hml, hown, hts⟩ (kX6_saves l dC dI cI cV cW H.size o 0 aS aA aV aB ln at_ wl aR rm ga fi se ex ha S V n (hn)) (cwV 0 hts gX6_setShelf_X6_saves rfl rfl rfl hdX6_saves ⟨Nat.le_of_ble_eq_true rfl, Nat.le_of_ble_eq_true rfl⟩) (pW_V hK hP hPc hDc 0 4 rfl rfl rfl) rfl rfl hl.1 rfl (lv_room (Nat.le_of_ble_eq_true rfl)) dX6_setShelf_61 ⟨Nat.zero_le _, Nat.zero_le _⟩) hS (fun q _ h => hFc q h) hFc (fun u_ t_ H1 locs ht_ hvm_ hw_ hB_ hz_ hk_ hS => ?_)
          obtain ⟨hP1, -, hD1⟩ := hB_
          rw [ht_] at hP1
          obtain ⟨hP, hD⟩ := va_join (wr := []) (w1 := [(o, .inr (4, [.int (nI 0), .ref aS, .ref aA, .ref aV, .int (nI (svN n)), .ref aB, .int ln, .int at_, .int wl, .ref aR, .int rm, .int ga, .int fi, .int se, .int ex, .long ha])), (aS, .inl (cI, 96, .inl S)), (aV, .inl (cI, 576, .inl (svV S V n)))]) hP hD [0, 1, 2] [] rfl rfl (by decide) (by decide) hk_ hFc hP1 hD1
          clear hP1 hD1 hPc hDc hFc hk_ hz_ hvm_ ht_
          generalize H1 = H at hP hS ⊢
          replace hP : va_P (dC, dI) vwCl [(o, .inr (4, [.int (nI 0), .ref aS, .ref aA, .ref aV, .int (nI (svN n)), .ref aB, .int ln, .int at_, .int wl, .ref aR, .int rm, .int ga, .int fi, .int se, .int ex, .long ha])), (aS, .inl (cI, 96, .inl S)), (aV, .inl (cI, 576, .inl (svV S V n)))] H := hP
          replace hD : va_D A [(o, .inr (4, [.int (nI 0), .ref aS, .ref aA, .ref aV, .int (nI (svN n)), .ref aB, .int ln, .int at_, .int wl, .ref aR, .int rm, .int ga, .int fi, .int se, .int ex, .long ha])), (aS, .inl (cI, 96, .inl S)), (aV, .inl (cI, 576, .inl (svV S V n)))] := hD
          refine W.widen (k := 0) (n := 0) (Nat.le_refl 0) (Nat.le_refl 0) ?_
          refine lv_aload_n hx hb dX6_setShelf_64 rfl (lv_at hl 0 rfl) ?_
          refine va_get (D := (dC, dI)) (ci := 4) (v := .ref aS) (C := RX6) (T := TX6) (N := 16) hx hb hts hiX6 hown hK hP 0 rfl rfl 1 (by decide) hf7 (fun _ h9 => h9) rfl dX6_setShelf_65 ?_
          refine lv_iconst (v := (nI 3)) hx hb dX6_setShelf_68 (by decide) ?_
          refine lv_iload_n hx hb dX6_setShelf_69 rfl (lv_at hl 1 rfl) ?_
          refine n_iadd hx hb dX6_setShelf_70 ?_
          refine lv_iload_n hx hb dX6_setShelf_71 rfl (lv_at hl 2 rfl) ?_
          refine n_iast hx hb hK hP hD hS 1 0 rfl rfl (show 3 + k < 96 from by omega) (by decide) dX6_setShelf_72 (fun H locs hP hD hS => ?_)
          replace hP : va_P (dC, dI) vwCl [(o, .inr (4, [.int (nI 0), .ref aS, .ref aA, .ref aV, .int (nI (svN n)), .ref aB, .int ln, .int at_, .int wl, .ref aR, .int rm, .int ga, .int fi, .int se, .int ex, .long ha])), (aS, .inl (cI, 96, .inl (upd S (3 + k) y))), (aV, .inl (cI, 576, .inl (svV S V n)))] H := hP
          replace hD : va_D A [(o, .inr (4, [.int (nI 0), .ref aS, .ref aA, .ref aV, .int (nI (svN n)), .ref aB, .int ln, .int at_, .int wl, .ref aR, .int rm, .int ga, .int fi, .int se, .int ex, .long ha])), (aS, .inl (cI, 96, .inl (upd S (3 + k) y))), (aV, .inl (cI, 576, .inl (svV S V n)))] := hD
          refine lv_aload_n hx hb dX6_setShelf_73 rfl (lv_at hl 0 rfl) ?_
          refine va_get (D := (dC, dI)) (ci := 4) (v := .ref aS) (C := RX6) (T := TX6) (N := 16) hx hb hts hiX6 hown hK hP 0 rfl rfl 1 (by decide) hf7 (fun _ h9 => h9) rfl dX6_setShelf_74 ?_
          refine lv_bipush (v := (nI 9)) hx hb dX6_setShelf_77 (by decide) ?_
          refine lv_iload_n hx hb dX6_setShelf_79 rfl (lv_at hl 1 rfl) ?_
          refine n_iadd hx hb dX6_setShelf_80 ?_
          refine lv_iload_n hx hb dX6_setShelf_81 rfl (lv_at hl 3 rfl) ?_
          refine n_iast hx hb hK hP hD hS 1 0 rfl rfl (show 9 + k < 96 from by omega) (by decide) dX6_setShelf_82 (fun H locs hP hD hS => ?_)
          replace hP : va_P (dC, dI) vwCl [(o, .inr (4, [.int (nI 0), .ref aS, .ref aA, .ref aV, .int (nI (svN n)), .ref aB, .int ln, .int at_, .int wl, .ref aR, .int rm, .int ga, .int fi, .int se, .int ex, .long ha])), (aS, .inl (cI, 96, .inl (upd (upd S (3 + k) y) (9 + k) z))), (aV, .inl (cI, 576, .inl (svV S V n)))] H := hP
          replace hD : va_D A [(o, .inr (4, [.int (nI 0), .ref aS, .ref aA, .ref aV, .int (nI (svN n)), .ref aB, .int ln, .int at_, .int wl, .ref aR, .int rm, .int ga, .int fi, .int se, .int ex, .long ha])), (aS, .inl (cI, 96, .inl (upd (upd S (3 + k) y) (9 + k) z))), (aV, .inl (cI, 576, .inl (svV S V n)))] := hD
          refine lv_aload_n hx hb dX6_setShelf_83 rfl (lv_at hl 0 rfl) ?_
          refine lv_iload_n hx hb dX6_setShelf_84 rfl (lv_at hl 1 rfl) ?_
          refine vp_callSi (W.runV (As := [.int (nI k)]) (rest := []) ⟨hx, hb, hml, hown, hts⟩ (kX6_room l dC dI cI cV cW o 0 aS aA aV (nI (svN n)) aB ln at_ wl aR rm ga fi se ex ha (upd (upd S (3 + k) y) (9 + k) z) cn k (RO_lo (by omega) (by omega) (RO_lo (by omega) (by omega) hR)) (by omega)) (cwV 1 hts gX6_setShelf_X6_room rfl rfl rfl hdX6_room ⟨Nat.le_of_ble_eq_true rfl, Nat.le_of_ble_eq_true rfl⟩) (pR_V hK hP 0 4 rfl rfl rfl [0, 1] rfl) rfl rfl hl.1 rfl (lv_room (Nat.le_of_ble_eq_true rfl)) dX6_setShelf_85 ⟨Nat.zero_le _, Nat.zero_le _⟩) (fun r_85 hr_ => ?_)
          subst hr_
          have ec_r88_2_o_0 : (nI 0) = (nI (cdSet S cn (nI k) y z)) := by first | rfl | (first | (simp [cdSet, fSet, c_9, c_26, c_36, c_51, Int32.not_lt.mpr c_51, ix_nI (show k < 2147483648 by omega)] <;> rfl))
          have ec_r88_2_o_4 : (nI (svN n)) = (nI (if cdSet S cn (nI k) y z = 0 then svN n else n)) := by first | rfl | (first | (simp [cdSet, fSet, c_9, c_26, c_36, c_51, Int32.not_lt.mpr c_51, ix_nI (show k < 2147483648 by omega)] <;> rfl))
          have ec_r88_2_aS : upd (upd S (3 + k) y) (9 + k) z = if cdSet S cn (nI k) y z = 0 then fSet S (ix (nI k)) y z else S := by first | rfl | (first | (simp [cdSet, fSet, c_9, c_26, c_36, c_51, Int32.not_lt.mpr c_51, ix_nI (show k < 2147483648 by omega)] <;> rfl))
          have ec_r88_2_aV : svV S V n = if cdSet S cn (nI k) y z = 0 then svV S V n else V := by first | rfl | (first | (simp [cdSet, fSet, c_9, c_26, c_36, c_51, Int32.not_lt.mpr c_51, ix_nI (show k < 2147483648 by omega)] <;> rfl))
          have ew_r88_2 : ([(o, .inr (4, [.int (nI 0), .ref aS, .ref aA, .ref aV, .int (nI (svN n)), .ref aB, .int ln, .int at_, .int wl, .ref aR, .int rm, .int ga, .int fi, .int se, .int ex, .long ha])), (aS, .inl (cI, 96, .inl (upd (upd S (3 + k) y) (9 + k) z))), (aV, .inl (cI, 576, .inl (svV S V n)))] : va_W) = [(o, .inr (4, [.int (nI (cdSet S cn (nI k) y z)), .ref aS, .ref aA, .ref aV, .int (nI (if cdSet S cn (nI k) y z = 0 then svN n else n)), .ref aB, .int ln, .int at_, .int wl, .ref aR, .int rm, .int ga, .int fi, .int se, .int ex, .long ha])), (aS, .inl (cI, 96, .inl (if cdSet S cn (nI k) y z = 0 then fSet S (ix (nI k)) y z else S))), (aV, .inl (cI, 576, .inl (if cdSet S cn (nI k) y z = 0 then svV S V n else V)))] := ((((congrArg (fun z_ => ([(o, .inr (4, [.int z_, .ref aS, .ref aA, .ref aV, .int (nI (svN n)), .ref aB, .int ln, .int at_, .int wl, .ref aR, .int rm, .int ga, .int fi, .int se, .int ex, .long ha])), (aS, .inl (cI, 96, .inl (upd (upd S (3 + k) y) (9 + k) z))), (aV, .inl (cI, 576, .inl (svV S V n)))] : va_W)) ec_r88_2_o_0).trans (congrArg (fun z_ => ([(o, .inr (4, [.int (nI (cdSet S cn (nI k) y z)), .ref aS, .ref aA, .ref aV, .int z_, .ref aB, .int ln, .int at_, .int wl, .ref aR, .int rm, .int ga, .int fi, .int se, .int ex, .long ha])), (aS, .inl (cI, 96, .inl (upd (upd S (3 + k) y) (9 + k) z))), (aV, .inl (cI, 576, .inl (svV S V n)))] : va_W)) ec_r88_2_o_4)).trans (congrArg (fun z_ => ([(o, .inr (4, [.int (nI (cdSet S cn (nI k) y z)), .ref aS, .ref aA, .ref aV, .int (nI (if cdSet S cn (nI k) y z = 0 then svN n else n)), .ref aB, .int ln, .int at_, .int wl, .ref aR, .int rm, .int ga, .int fi, .int se, .int ex, .long ha])), (aS, .inl (cI, 96, .inl z_)), (aV, .inl (cI, 576, .inl (svV S V n)))] : va_W)) ec_r88_2_aS)).trans (congrArg (fun z_ => ([(o, .inr (4, [.int (nI (cdSet S cn (nI k) y z)), .ref aS, .ref aA, .ref aV, .int (nI (if cdSet S cn (nI k) y z = 0 then svN n else n)), .ref aB, .int ln, .int at_, .int wl, .ref aR, .int rm, .int ga, .int fi, .int se, .int ex, .long ha])), (aS, .inl (cI, 96, .inl (if cdSet S cn (nI k) y z = 0 then fSet S (ix (nI k)) y z else S))), (aV, .inl (cI, 576, .inl z_))] : va_W)) ec_r88_2_aV))
          have hP9 := (w_cgP ew_r88_2 hP)
          have hD9 := (w_cgD ew_r88_2 hD)
          exact W.iret (v := (sRm (upd (upd S (3 + k) y) (9 + k) z) cn k)) hx hb hr (fun t ht hW => ⟨⟨(sRm (upd (upd S (3 + k) y) (9 + k) z) cn k), (), rfl, (show (sRm (upd (upd S (3 + k) y) (9 + k) z) cn k) = (if cdSet S cn (nI k) y z = 0 then sRm (fSet S (ix (nI k)) y z) cn (ix (nI k)) else 0) from by first | rfl | (first | (simp [cdSet, fSet, c_9, c_26, c_36, c_51, Int32.not_lt.mpr c_51, ix_nI (show k < 2147483648 by omega)] <;> rfl))), by rw [ht]; exact hP9, va_K.moved hW.alike hK, hD9⟩, hS.F ht⟩) hS.2.2 dX6_setShelf_88
        · refine lv_aload_n hx hb dX6_setShelf_54 rfl (lv_at hl 0 rfl) ?_
          refine lv_iconst (v := (nI 3)) hx hb dX6_setShelf_55 (by decide) ?_
          have hPc := hP.sub (ws' := [(o, .inr (4, [.int (nI 0), .ref aS, .ref aA, .ref aV, .int (nI n), .ref aB, .int ln, .int at_, .int wl, .ref aR, .int rm, .int ga, .int fi, .int se, .int ex, .long ha]))]) [0] rfl
          have hDc := hD.sub (ws' := [(o, .inr (4, [.int (nI 0), .ref aS, .ref aA, .ref aV, .int (nI n), .ref aB, .int ln, .int at_, .int wl, .ref aR, .int rm, .int ga, .int fi, .int se, .int ex, .long ha]))]) [0] (by decide) rfl
          have hFc := va_free (wc := [(o, .inr (4, [.int (nI 0), .ref aS, .ref aA, .ref aV, .int (nI n), .ref aB, .int ln, .int at_, .int wl, .ref aR, .int rm, .int ga, .int fi, .int se, .int ex, .long ha]))]) hD hS hA [0] rfl
          refine va_calli (va_runV (As := [.int (nI 3)]) (rest := []) ⟨hx, hb, hml, hown, hts⟩ (kX6_fails l dC dI cI cV cW H.size o 0 aS aA aV (nI n) aB ln at_ wl aR rm ga fi se ex ha 3) (cwV 1 hts gX6_setShelf_X6_fails rfl rfl rfl hdX6_fails ⟨Nat.le_of_ble_eq_true rfl, Nat.le_of_ble_eq_true rfl⟩) (pW_V hK hP hPc hDc 0 4 rfl rfl rfl) rfl rfl hl.1 rfl (lv_room (Nat.le_of_ble_eq_true rfl)) dX6_setShelf_56 ⟨Nat.zero_le _, Nat.zero_le _⟩) hS (fun q _ h => hFc q h) hFc (fun r_56 u_ t_ H1 locs ht_ hvm_ hw_ hB_ hz_ hk_ hS => ?_)
          obtain ⟨hP1, -, hD1⟩ := hB_
          rw [ht_] at hP1
          obtain ⟨hP, hD⟩ := va_join (wr := [(aS, .inl (cI, 96, .inl S)), (aV, .inl (cI, 576, .inl V))]) (w1 := [(o, .inr (4, [.int 3, .ref aS, .ref aA, .ref aV, .int (nI n), .ref aB, .int ln, .int at_, .int wl, .ref aR, .int rm, .int ga, .int fi, .int se, .int ex, .long ha]))]) hP hD [0] [1, 2] rfl rfl (by decide) (by decide) hk_ hFc hP1 hD1
          clear hP1 hD1 hPc hDc hFc hk_ hz_ hvm_ ht_
          generalize H1 = H at hP hS ⊢
          replace hP : va_P (dC, dI) vwCl [(o, .inr (4, [.int 3, .ref aS, .ref aA, .ref aV, .int (nI n), .ref aB, .int ln, .int at_, .int wl, .ref aR, .int rm, .int ga, .int fi, .int se, .int ex, .long ha])), (aS, .inl (cI, 96, .inl S)), (aV, .inl (cI, 576, .inl V))] H := hP.sub [2, 0, 1] rfl
          replace hD : va_D A [(o, .inr (4, [.int 3, .ref aS, .ref aA, .ref aV, .int (nI n), .ref aB, .int ln, .int at_, .int wl, .ref aR, .int rm, .int ga, .int fi, .int se, .int ex, .long ha])), (aS, .inl (cI, 96, .inl S)), (aV, .inl (cI, 576, .inl V))] := hD.sub [2, 0, 1] (by decide) rfl
          refine W.widen (k := 0) (n := 0) (Nat.le_refl 0) (Nat.le_refl 0) ?_
          have hw_ : r_56 = (nI 0) := hw_
          subst hw_
          have ec_r59_3_o_0 : 3 = (nI (cdSet S cn (nI k) y z)) := by first | rfl | (first | (simp [cdSet, fSet, c_9, c_26, c_36, c_51, Int32.not_le.mp c_51, ix_nI (show k < 2147483648 by omega)] <;> rfl))
          have ec_r59_3_o_4 : (nI n) = (nI (if cdSet S cn (nI k) y z = 0 then svN n else n)) := by first | rfl | (first | (simp [cdSet, fSet, c_9, c_26, c_36, c_51, Int32.not_le.mp c_51, ix_nI (show k < 2147483648 by omega)] <;> rfl))
          have ec_r59_3_aS : S = if cdSet S cn (nI k) y z = 0 then fSet S (ix (nI k)) y z else S := by first | rfl | (first | (simp [cdSet, fSet, c_9, c_26, c_36, c_51, Int32.not_le.mp c_51, ix_nI (show k < 2147483648 by omega)] <;> rfl))
          have ec_r59_3_aV : V = if cdSet S cn (nI k) y z = 0 then svV S V n else V := by first | rfl | (first | (simp [cdSet, fSet, c_9, c_26, c_36, c_51, Int32.not_le.mp c_51, ix_nI (show k < 2147483648 by omega)] <;> rfl))
          have ew_r59_3 : ([(o, .inr (4, [.int 3, .ref aS, .ref aA, .ref aV, .int (nI n), .ref aB, .int ln, .int at_, .int wl, .ref aR, .int rm, .int ga, .int fi, .int se, .int ex, .long ha])), (aS, .inl (cI, 96, .inl S)), (aV, .inl (cI, 576, .inl V))] : va_W) = [(o, .inr (4, [.int (nI (cdSet S cn (nI k) y z)), .ref aS, .ref aA, .ref aV, .int (nI (if cdSet S cn (nI k) y z = 0 then svN n else n)), .ref aB, .int ln, .int at_, .int wl, .ref aR, .int rm, .int ga, .int fi, .int se, .int ex, .long ha])), (aS, .inl (cI, 96, .inl (if cdSet S cn (nI k) y z = 0 then fSet S (ix (nI k)) y z else S))), (aV, .inl (cI, 576, .inl (if cdSet S cn (nI k) y z = 0 then svV S V n else V)))] := ((((congrArg (fun z_ => ([(o, .inr (4, [.int z_, .ref aS, .ref aA, .ref aV, .int (nI n), .ref aB, .int ln, .int at_, .int wl, .ref aR, .int rm, .int ga, .int fi, .int se, .int ex, .long ha])), (aS, .inl (cI, 96, .inl S)), (aV, .inl (cI, 576, .inl V))] : va_W)) ec_r59_3_o_0).trans (congrArg (fun z_ => ([(o, .inr (4, [.int (nI (cdSet S cn (nI k) y z)), .ref aS, .ref aA, .ref aV, .int z_, .ref aB, .int ln, .int at_, .int wl, .ref aR, .int rm, .int ga, .int fi, .int se, .int ex, .long ha])), (aS, .inl (cI, 96, .inl S)), (aV, .inl (cI, 576, .inl V))] : va_W)) ec_r59_3_o_4)).trans (congrArg (fun z_ => ([(o, .inr (4, [.int (nI (cdSet S cn (nI k) y z)), .ref aS, .ref aA, .ref aV, .int (nI (if cdSet S cn (nI k) y z = 0 then svN n else n)), .ref aB, .int ln, .int at_, .int wl, .ref aR, .int rm, .int ga, .int fi, .int se, .int ex, .long ha])), (aS, .inl (cI, 96, .inl z_)), (aV, .inl (cI, 576, .inl V))] : va_W)) ec_r59_3_aS)).trans (congrArg (fun z_ => ([(o, .inr (4, [.int (nI (cdSet S cn (nI k) y z)), .ref aS, .ref aA, .ref aV, .int (nI (if cdSet S cn (nI k) y z = 0 then svN n else n)), .ref aB, .int ln, .int at_, .int wl, .ref aR, .int rm, .int ga, .int fi, .int se, .int ex, .long ha])), (aS, .inl (cI, 96, .inl (if cdSet S cn (nI k) y z = 0 then fSet S (ix (nI k)) y z else S))), (aV, .inl (cI, 576, .inl z_))] : va_W)) ec_r59_3_aV))
          have hP9 := (w_cgP ew_r59_3 hP)
          have hD9 := (w_cgD ew_r59_3 hD)
          exact W.iret (v := (nI 0)) hx hb hr (fun t ht hW => ⟨⟨(nI 0), (), rfl, (show (nI 0) = (if cdSet S cn (nI k) y z = 0 then sRm (fSet S (ix (nI k)) y z) cn (ix (nI k)) else 0) from by first | rfl | (first | (simp [cdSet, fSet, c_9, c_26, c_36, c_51, Int32.not_le.mp c_51, ix_nI (show k < 2147483648 by omega)] <;> rfl))), by rw [ht]; exact hP9, va_K.moved hW.alike hK, hD9⟩, hS.F ht⟩) hS.2.2 dX6_setShelf_59
      · refine lv_aload_n hx hb dX6_setShelf_39 rfl (lv_at hl 0 rfl) ?_
        refine lv_iconst (v := (nI 2)) hx hb dX6_setShelf_40 (by decide) ?_
        have hPc := hP.sub (ws' := [(o, .inr (4, [.int (nI 0), .ref aS, .ref aA, .ref aV, .int (nI n), .ref aB, .int ln, .int at_, .int wl, .ref aR, .int rm, .int ga, .int fi, .int se, .int ex, .long ha]))]) [0] rfl
        have hDc := hD.sub (ws' := [(o, .inr (4, [.int (nI 0), .ref aS, .ref aA, .ref aV, .int (nI n), .ref aB, .int ln, .int at_, .int wl, .ref aR, .int rm, .int ga, .int fi, .int se, .int ex, .long ha]))]) [0] (by decide) rfl
        have hFc := va_free (wc := [(o, .inr (4, [.int (nI 0), .ref aS, .ref aA, .ref aV, .int (nI n), .ref aB, .int ln, .int at_, .int wl, .ref aR, .int rm, .int ga, .int fi, .int se, .int ex, .long ha]))]) hD hS hA [0] rfl
        refine va_calli (va_runV (As := [.int (nI 2)]) (rest := []) ⟨hx, hb, hml, hown, hts⟩ (kX6_fails l dC dI cI cV cW H.size o 0 aS aA aV (nI n) aB ln at_ wl aR rm ga fi se ex ha 2) (cwV 1 hts gX6_setShelf_X6_fails rfl rfl rfl hdX6_fails ⟨Nat.le_of_ble_eq_true rfl, Nat.le_of_ble_eq_true rfl⟩) (pW_V hK hP hPc hDc 0 4 rfl rfl rfl) rfl rfl hl.1 rfl (lv_room (Nat.le_of_ble_eq_true rfl)) dX6_setShelf_41 ⟨Nat.zero_le _, Nat.zero_le _⟩) hS (fun q _ h => hFc q h) hFc (fun r_41 u_ t_ H1 locs ht_ hvm_ hw_ hB_ hz_ hk_ hS => ?_)
        obtain ⟨hP1, -, hD1⟩ := hB_
        rw [ht_] at hP1
        obtain ⟨hP, hD⟩ := va_join (wr := [(aS, .inl (cI, 96, .inl S)), (aV, .inl (cI, 576, .inl V))]) (w1 := [(o, .inr (4, [.int 2, .ref aS, .ref aA, .ref aV, .int (nI n), .ref aB, .int ln, .int at_, .int wl, .ref aR, .int rm, .int ga, .int fi, .int se, .int ex, .long ha]))]) hP hD [0] [1, 2] rfl rfl (by decide) (by decide) hk_ hFc hP1 hD1
        clear hP1 hD1 hPc hDc hFc hk_ hz_ hvm_ ht_
        generalize H1 = H at hP hS ⊢
        replace hP : va_P (dC, dI) vwCl [(o, .inr (4, [.int 2, .ref aS, .ref aA, .ref aV, .int (nI n), .ref aB, .int ln, .int at_, .int wl, .ref aR, .int rm, .int ga, .int fi, .int se, .int ex, .long ha])), (aS, .inl (cI, 96, .inl S)), (aV, .inl (cI, 576, .inl V))] H := hP.sub [2, 0, 1] rfl
        replace hD : va_D A [(o, .inr (4, [.int 2, .ref aS, .ref aA, .ref aV, .int (nI n), .ref aB, .int ln, .int at_, .int wl, .ref aR, .int rm, .int ga, .int fi, .int se, .int ex, .long ha])), (aS, .inl (cI, 96, .inl S)), (aV, .inl (cI, 576, .inl V))] := hD.sub [2, 0, 1] (by decide) rfl
        refine W.widen (k := 0) (n := 0) (Nat.le_refl 0) (Nat.le_refl 0) ?_
        have hw_ : r_41 = (nI 0) := hw_
        subst hw_
        have ec_r44_4_o_0 : 2 = (nI (cdSet S cn (nI k) y z)) := by first | rfl | (first | (simp [cdSet, fSet, c_9, c_26, c_36, ix_nI (show k < 2147483648 by omega)] <;> rfl))
        have ec_r44_4_o_4 : (nI n) = (nI (if cdSet S cn (nI k) y z = 0 then svN n else n)) := by first | rfl | (first | (simp [cdSet, fSet, c_9, c_26, c_36, ix_nI (show k < 2147483648 by omega)] <;> rfl))
        have ec_r44_4_aS : S = if cdSet S cn (nI k) y z = 0 then fSet S (ix (nI k)) y z else S := by first | rfl | (first | (simp [cdSet, fSet, c_9, c_26, c_36, ix_nI (show k < 2147483648 by omega)] <;> rfl))
        have ec_r44_4_aV : V = if cdSet S cn (nI k) y z = 0 then svV S V n else V := by first | rfl | (first | (simp [cdSet, fSet, c_9, c_26, c_36, ix_nI (show k < 2147483648 by omega)] <;> rfl))
        have ew_r44_4 : ([(o, .inr (4, [.int 2, .ref aS, .ref aA, .ref aV, .int (nI n), .ref aB, .int ln, .int at_, .int wl, .ref aR, .int rm, .int ga, .int fi, .int se, .int ex, .long ha])), (aS, .inl (cI, 96, .inl S)), (aV, .inl (cI, 576, .inl V))] : va_W) = [(o, .inr (4, [.int (nI (cdSet S cn (nI k) y z)), .ref aS, .ref aA, .ref aV, .int (nI (if cdSet S cn (nI k) y z = 0 then svN n else n)), .ref aB, .int ln, .int at_, .int wl, .ref aR, .int rm, .int ga, .int fi, .int se, .int ex, .long ha])), (aS, .inl (cI, 96, .inl (if cdSet S cn (nI k) y z = 0 then fSet S (ix (nI k)) y z else S))), (aV, .inl (cI, 576, .inl (if cdSet S cn (nI k) y z = 0 then svV S V n else V)))] := ((((congrArg (fun z_ => ([(o, .inr (4, [.int z_, .ref aS, .ref aA, .ref aV, .int (nI n), .ref aB, .int ln, .int at_, .int wl, .ref aR, .int rm, .int ga, .int fi, .int se, .int ex, .long ha])), (aS, .inl (cI, 96, .inl S)), (aV, .inl (cI, 576, .inl V))] : va_W)) ec_r44_4_o_0).trans (congrArg (fun z_ => ([(o, .inr (4, [.int (nI (cdSet S cn (nI k) y z)), .ref aS, .ref aA, .ref aV, .int z_, .ref aB, .int ln, .int at_, .int wl, .ref aR, .int rm, .int ga, .int fi, .int se, .int ex, .long ha])), (aS, .inl (cI, 96, .inl S)), (aV, .inl (cI, 576, .inl V))] : va_W)) ec_r44_4_o_4)).trans (congrArg (fun z_ => ([(o, .inr (4, [.int (nI (cdSet S cn (nI k) y z)), .ref aS, .ref aA, .ref aV, .int (nI (if cdSet S cn (nI k) y z = 0 then svN n else n)), .ref aB, .int ln, .int at_, .int wl, .ref aR, .int rm, .int ga, .int fi, .int se, .int ex, .long ha])), (aS, .inl (cI, 96, .inl z_)), (aV, .inl (cI, 576, .inl V))] : va_W)) ec_r44_4_aS)).trans (congrArg (fun z_ => ([(o, .inr (4, [.int (nI (cdSet S cn (nI k) y z)), .ref aS, .ref aA, .ref aV, .int (nI (if cdSet S cn (nI k) y z = 0 then svN n else n)), .ref aB, .int ln, .int at_, .int wl, .ref aR, .int rm, .int ga, .int fi, .int se, .int ex, .long ha])), (aS, .inl (cI, 96, .inl (if cdSet S cn (nI k) y z = 0 then fSet S (ix (nI k)) y z else S))), (aV, .inl (cI, 576, .inl z_))] : va_W)) ec_r44_4_aV))
        have hP9 := (w_cgP ew_r44_4 hP)
        have hD9 := (w_cgD ew_r44_4 hD)
        exact W.iret (v := (nI 0)) hx hb hr (fun t ht hW => ⟨⟨(nI 0), (), rfl, (show (nI 0) = (if cdSet S cn (nI k) y z = 0 then sRm (fSet S (ix (nI k)) y z) cn (ix (nI k)) else 0) from by first | rfl | (first | (simp [cdSet, fSet, c_9, c_26, c_36, ix_nI (show k < 2147483648 by omega)] <;> rfl))), by rw [ht]; exact hP9, va_K.moved hW.alike hK, hD9⟩, hS.F ht⟩) hS.2.2 dX6_setShelf_44
  · refine lv_aload_n hx hb dX6_setShelf_12 rfl (lv_at hl 0 rfl) ?_
    refine lv_iconst (v := (nI 1)) hx hb dX6_setShelf_13 (by decide) ?_
    have hPc := hP.sub (ws' := [(o, .inr (4, [.int (nI 0), .ref aS, .ref aA, .ref aV, .int (nI n), .ref aB, .int ln, .int at_, .int wl, .ref aR, .int rm, .int ga, .int fi, .int se, .int ex, .long ha]))]) [0] rfl
    have hDc := hD.sub (ws' := [(o, .inr (4, [.int (nI 0), .ref aS, .ref aA, .ref aV, .int (nI n), .ref aB, .int ln, .int at_, .int wl, .ref aR, .int rm, .int ga, .int fi, .int se, .int ex, .long ha]))]) [0] (by decide) rfl
    have hFc := va_free (wc := [(o, .inr (4, [.int (nI 0), .ref aS, .ref aA, .ref aV, .int (nI n), .ref aB, .int ln, .int at_, .int wl, .ref aR, .int rm, .int ga, .int fi, .int se, .int ex, .long ha]))]) hD hS hA [0] rfl
    refine va_calli (va_runV (As := [.int (nI 1)]) (rest := []) ⟨hx, hb, hml, hown, hts⟩ (kX6_fails l dC dI cI cV cW H.size o 0 aS aA aV (nI n) aB ln at_ wl aR rm ga fi se ex ha 1) (cwV 1 hts gX6_setShelf_X6_fails rfl rfl rfl hdX6_fails ⟨Nat.le_of_ble_eq_true rfl, Nat.le_of_ble_eq_true rfl⟩) (pW_V hK hP hPc hDc 0 4 rfl rfl rfl) rfl rfl hl.1 rfl (lv_room (Nat.le_of_ble_eq_true rfl)) dX6_setShelf_14 ⟨Nat.zero_le _, Nat.zero_le _⟩) hS (fun q _ h => hFc q h) hFc (fun r_14 u_ t_ H1 locs ht_ hvm_ hw_ hB_ hz_ hk_ hS => ?_)
    obtain ⟨hP1, -, hD1⟩ := hB_
    rw [ht_] at hP1
    obtain ⟨hP, hD⟩ := va_join (wr := [(aS, .inl (cI, 96, .inl S)), (aV, .inl (cI, 576, .inl V))]) (w1 := [(o, .inr (4, [.int 1, .ref aS, .ref aA, .ref aV, .int (nI n), .ref aB, .int ln, .int at_, .int wl, .ref aR, .int rm, .int ga, .int fi, .int se, .int ex, .long ha]))]) hP hD [0] [1, 2] rfl rfl (by decide) (by decide) hk_ hFc hP1 hD1
    clear hP1 hD1 hPc hDc hFc hk_ hz_ hvm_ ht_
    generalize H1 = H at hP hS ⊢
    replace hP : va_P (dC, dI) vwCl [(o, .inr (4, [.int 1, .ref aS, .ref aA, .ref aV, .int (nI n), .ref aB, .int ln, .int at_, .int wl, .ref aR, .int rm, .int ga, .int fi, .int se, .int ex, .long ha])), (aS, .inl (cI, 96, .inl S)), (aV, .inl (cI, 576, .inl V))] H := hP.sub [2, 0, 1] rfl
    replace hD : va_D A [(o, .inr (4, [.int 1, .ref aS, .ref aA, .ref aV, .int (nI n), .ref aB, .int ln, .int at_, .int wl, .ref aR, .int rm, .int ga, .int fi, .int se, .int ex, .long ha])), (aS, .inl (cI, 96, .inl S)), (aV, .inl (cI, 576, .inl V))] := hD.sub [2, 0, 1] (by decide) rfl
    refine W.widen (k := 0) (n := 0) (Nat.le_refl 0) (Nat.le_refl 0) ?_
    have hw_ : r_14 = (nI 0) := hw_
    subst hw_
    have ec_r17_5_o_0 : 1 = (nI (cdSet S cn x y z)) := by first | rfl | (first | (simp [cdSet, fSet, c_9] <;> rfl))
    have ec_r17_5_o_4 : (nI n) = (nI (if cdSet S cn x y z = 0 then svN n else n)) := by first | rfl | (first | (simp [cdSet, fSet, c_9] <;> rfl))
    have ec_r17_5_aS : S = if cdSet S cn x y z = 0 then fSet S (ix x) y z else S := by first | rfl | (first | (simp [cdSet, fSet, c_9] <;> rfl))
    have ec_r17_5_aV : V = if cdSet S cn x y z = 0 then svV S V n else V := by first | rfl | (first | (simp [cdSet, fSet, c_9] <;> rfl))
    have ew_r17_5 : ([(o, .inr (4, [.int 1, .ref aS, .ref aA, .ref aV, .int (nI n), .ref aB, .int ln, .int at_, .int wl, .ref aR, .int rm, .int ga, .int fi, .int se, .int ex, .long ha])), (aS, .inl (cI, 96, .inl S)), (aV, .inl (cI, 576, .inl V))] : va_W) = [(o, .inr (4, [.int (nI (cdSet S cn x y z)), .ref aS, .ref aA, .ref aV, .int (nI (if cdSet S cn x y z = 0 then svN n else n)), .ref aB, .int ln, .int at_, .int wl, .ref aR, .int rm, .int ga, .int fi, .int se, .int ex, .long ha])), (aS, .inl (cI, 96, .inl (if cdSet S cn x y z = 0 then fSet S (ix x) y z else S))), (aV, .inl (cI, 576, .inl (if cdSet S cn x y z = 0 then svV S V n else V)))] := ((((congrArg (fun z_ => ([(o, .inr (4, [.int z_, .ref aS, .ref aA, .ref aV, .int (nI n), .ref aB, .int ln, .int at_, .int wl, .ref aR, .int rm, .int ga, .int fi, .int se, .int ex, .long ha])), (aS, .inl (cI, 96, .inl S)), (aV, .inl (cI, 576, .inl V))] : va_W)) ec_r17_5_o_0).trans (congrArg (fun z_ => ([(o, .inr (4, [.int (nI (cdSet S cn x y z)), .ref aS, .ref aA, .ref aV, .int z_, .ref aB, .int ln, .int at_, .int wl, .ref aR, .int rm, .int ga, .int fi, .int se, .int ex, .long ha])), (aS, .inl (cI, 96, .inl S)), (aV, .inl (cI, 576, .inl V))] : va_W)) ec_r17_5_o_4)).trans (congrArg (fun z_ => ([(o, .inr (4, [.int (nI (cdSet S cn x y z)), .ref aS, .ref aA, .ref aV, .int (nI (if cdSet S cn x y z = 0 then svN n else n)), .ref aB, .int ln, .int at_, .int wl, .ref aR, .int rm, .int ga, .int fi, .int se, .int ex, .long ha])), (aS, .inl (cI, 96, .inl z_)), (aV, .inl (cI, 576, .inl V))] : va_W)) ec_r17_5_aS)).trans (congrArg (fun z_ => ([(o, .inr (4, [.int (nI (cdSet S cn x y z)), .ref aS, .ref aA, .ref aV, .int (nI (if cdSet S cn x y z = 0 then svN n else n)), .ref aB, .int ln, .int at_, .int wl, .ref aR, .int rm, .int ga, .int fi, .int se, .int ex, .long ha])), (aS, .inl (cI, 96, .inl (if cdSet S cn x y z = 0 then fSet S (ix x) y z else S))), (aV, .inl (cI, 576, .inl z_))] : va_W)) ec_r17_5_aV))
    have hP9 := (w_cgP ew_r17_5 hP)
    have hD9 := (w_cgD ew_r17_5 hD)
    exact W.iret (v := (nI 0)) hx hb hr (fun t ht hW => ⟨⟨(nI 0), (), rfl, (show (nI 0) = (if cdSet S cn x y z = 0 then sRm (fSet S (ix x) y z) cn (ix x) else 0) from by first | rfl | (first | (simp [cdSet, fSet, c_9] <;> rfl))), by rw [ht]; exact hP9, va_K.moved hW.alike hK, hD9⟩, hS.F ht⟩) hS.2.2 dX6_setShelf_17
set_option maxHeartbeats 4000000 in
set_option maxRecDepth 100000 in
theorem kX6_refusesAdding (l : Launch) (dC : Nat → ClassId) (dI : Nat → Nat → Nat) (cI cV cW : ClassId) (o : Nat) (th : Int32) (aS : Nat) (aA : Nat) (aV : Nat) (sm : Int32) (aB : Nat) (ln : Int32) (at_ : Int32) (wl : Int32) (aR : Nat) (rm : Int32) (ga : Int32) (fi : Int32) (se : Int32) (ex : Int32) (ha : Int64) (S : Nat → Int32) (cn : Nat) (w : Int32) (x : Int32) (hR : RO S cn) : Met l yX6_refusesAdding wsX6_refusesAdding ({ frames := 3, cells := 0, slots := 0, locals := 66 }) (pR (dC, dI) (tyS cI cV cW) [.ref o, .int w, .int x] [(o, .inr (4, [.int th, .ref aS, .ref aA, .ref aV, .int sm, .ref aB, .int ln, .int at_, .int wl, .ref aR, .int rm, .int ga, .int fi, .int se, .int ex, .long ha])), (aS, .inl (cI, 96, .inl S))]) (vp_Si (fun r_ => r_ = (nI (cdAdd S cn w x)))) 0 0 (fun _ => False) := by
  refine Met.ofW (cc := cX6_refusesAdding) (maxL := 3) (ret := (some .int)) (by decide) rfl ?_
  intro p e s m args below meth c s₁ B hml hv
  obtain ⟨rfl, hP, hK⟩ := hv
  have hx := B.exec
  have hb := B.bytes
  have hr := B.returns
  have hts := atoms_spec (ws := wsX6_refusesAdding) B.pre
  have hown : s.vm.findClass RX6 = some m.cls := findClass_of_methodNamed B.named
  have hlocks := B.notSynchronized
  have hf7 := hts (.fieldLink RX6 7 "VaultShelvesModel" "s" "[I") (by decide +kernel)
  have hiX6 : ∀ w ∈ u_ws RX6 TX6 16, w ∈ wsX6_refusesAdding := by decide +kernel
  have hl := lv_entry ([.ref o, .int w, .int x]) (n := 3) (Nat.le_of_ble_eq_true rfl)
  rw [lg_entry_eq]
  generalize (lg_sl ([.ref o, .int w, .int x]) ++ List.replicate (3 - (lg_sl ([.ref o, .int w, .int x])).length) Slot.unset).toArray = ls at hl ⊢
  replace hl : lv_has ls 3 [(0, .ref o), (1, .int w), (2, .int x)] := hl
  have hc := hR.2.1
  refine lv_iload_n hx hb dX6_refusesAdding_0 rfl (lv_at hl 2 rfl) ?_
  refine vp_callSi (W.runS (As := [.int x]) (rest := []) ⟨hx, hb, hml, hown, hts⟩ (kX6_isShelf l dC dI cI cV cW x) (va_cwS 1 hts gX6_refusesAdding_X6_isShelf rfl rfl rfl hdX6_isShelf ⟨Nat.le_of_ble_eq_true rfl, Nat.le_of_ble_eq_true rfl⟩) (pR_S hK hP [] rfl) rfl rfl hl.1 rfl (lv_room (Nat.le_of_ble_eq_true rfl)) dX6_refusesAdding_1 ⟨Nat.zero_le _, Nat.zero_le _⟩) (fun r_1 hr_ => ?_)
  subst hr_
  refine b_if_ne (tgt := 9) hx hb dX6_refusesAdding_4 (by decide) (fun c_4 => ?_) (fun c_4 => ?_)
  · obtain ⟨k, hk, rfl⟩ := sh_of c_4
    refine lv_iload_n hx hb dX6_refusesAdding_9 rfl (lv_at hl 1 rfl) ?_
    refine lv_iconst (v := (nI 1)) hx hb dX6_refusesAdding_10 (by decide) ?_
    refine lv_bipush (v := (nI 30)) hx hb dX6_refusesAdding_11 (by decide) ?_
    refine vp_callSi (W.runS (As := [.int w, .int (nI 1), .int (nI 30)]) (rest := []) ⟨hx, hb, hml, hown, hts⟩ (kX6_in l dC dI cI cV cW w 1 30) (va_cwS 3 hts gX6_refusesAdding_X6_in rfl rfl rfl hdX6_in ⟨Nat.le_of_ble_eq_true rfl, Nat.le_of_ble_eq_true rfl⟩) (pR_S hK hP [] rfl) rfl rfl hl.1 rfl (lv_room (Nat.le_of_ble_eq_true rfl)) dX6_refusesAdding_13 ⟨Nat.zero_le _, Nat.zero_le _⟩) (fun r_13 hr_ => ?_)
    subst hr_
    refine b_if_ne (tgt := 21) hx hb dX6_refusesAdding_16 (by decide) (fun c_16 => ?_) (fun c_16 => ?_)
    · refine lv_aload_n hx hb dX6_refusesAdding_21 rfl (lv_at hl 0 rfl) ?_
      refine va_get (D := (dC, dI)) (ci := 4) (v := .ref aS) (C := RX6) (T := TX6) (N := 16) hx hb hts hiX6 hown hK hP 0 rfl rfl 1 (by decide) hf7 (fun _ h9 => h9) rfl dX6_refusesAdding_22 ?_
      refine lv_iconst (v := (nI 0)) hx hb dX6_refusesAdding_25 (by decide) ?_
      refine n_iald hx hb hK hP 1 0 rfl rfl (show 0 < 96 from by omega) (by decide) dX6_refusesAdding_26 ?_
      refine lv_cgi (show (S 0) = (nI cn) from hR.1) ?_
      refine lv_bipush (v := (nI 16)) hx hb dX6_refusesAdding_27 (by decide) ?_
      refine n_icmp_eq (tgt := 41) hx hb dX6_refusesAdding_29 (by decide) (by omega) (by omega) (fun c_29 => ?_) (fun c_29 => ?_)
      · refine lv_iconst (v := (nI 3)) hx hb dX6_refusesAdding_41 (by decide) ?_
        refine lv_goto (tgt := 46) hx hb dX6_refusesAdding_42 (by decide) ?_
        exact W.iret (v := (nI 3)) hx hb hr (fun t ht hW => ⟨_, rfl, (show (nI 3) = (nI (cdAdd S cn w (nI k))) from by first | rfl | (first | (simp [cdAdd, c_4, c_16, c_29, ix_nI (show k < 2147483648 by omega)] <;> rfl))), ht⟩) (fun q hq => absurd hq List.not_mem_nil) dX6_refusesAdding_46
      · refine lv_aload_n hx hb dX6_refusesAdding_32 rfl (lv_at hl 0 rfl) ?_
        refine lv_iload_n hx hb dX6_refusesAdding_33 rfl (lv_at hl 2 rfl) ?_
        refine vp_callSi (W.runV (As := [.int (nI k)]) (rest := []) ⟨hx, hb, hml, hown, hts⟩ (kX6_room l dC dI cI cV cW o th aS aA aV sm aB ln at_ wl aR rm ga fi se ex ha S cn k (hR) (by omega)) (cwV 1 hts gX6_refusesAdding_X6_room rfl rfl rfl hdX6_room ⟨Nat.le_of_ble_eq_true rfl, Nat.le_of_ble_eq_true rfl⟩) (pR_V hK hP 0 4 rfl rfl rfl [0, 1] rfl) rfl rfl hl.1 rfl (lv_room (Nat.le_of_ble_eq_true rfl)) dX6_refusesAdding_34 ⟨Nat.zero_le _, Nat.zero_le _⟩) (fun r_34 hr_ => ?_)
        subst hr_
        refine lv_iload_n hx hb dX6_refusesAdding_37 rfl (lv_at hl 1 rfl) ?_
        refine lv_icmp_ge (tgt := 45) hx hb dX6_refusesAdding_38 (by decide) (fun c_38 => ?_) (fun c_38 => ?_)
        · refine lv_iconst (v := (nI 0)) hx hb dX6_refusesAdding_45 (by decide) ?_
          exact W.iret (v := (nI 0)) hx hb hr (fun t ht hW => ⟨_, rfl, (show (nI 0) = (nI (cdAdd S cn w (nI k))) from by first | rfl | (first | (simp [cdAdd, c_4, c_16, c_29, c_38, Int32.not_lt.mpr c_38, ix_nI (show k < 2147483648 by omega)] <;> rfl))), ht⟩) (fun q hq => absurd hq List.not_mem_nil) dX6_refusesAdding_46
        · refine lv_iconst (v := (nI 3)) hx hb dX6_refusesAdding_41 (by decide) ?_
          refine lv_goto (tgt := 46) hx hb dX6_refusesAdding_42 (by decide) ?_
          exact W.iret (v := (nI 3)) hx hb hr (fun t ht hW => ⟨_, rfl, (show (nI 3) = (nI (cdAdd S cn w (nI k))) from by first | rfl | (first | (simp [cdAdd, c_4, c_16, c_29, c_38, Int32.not_le.mp c_38, ix_nI (show k < 2147483648 by omega)] <;> rfl))), ht⟩) (fun q hq => absurd hq List.not_mem_nil) dX6_refusesAdding_46
    · refine lv_iconst (v := (nI 2)) hx hb dX6_refusesAdding_19 (by decide) ?_
      exact W.iret (v := (nI 2)) hx hb hr (fun t ht hW => ⟨_, rfl, (show (nI 2) = (nI (cdAdd S cn w (nI k))) from by first | rfl | (first | (simp [cdAdd, c_4, c_16, ix_nI (show k < 2147483648 by omega)] <;> rfl))), ht⟩) (fun q hq => absurd hq List.not_mem_nil) dX6_refusesAdding_20
  · refine lv_iconst (v := (nI 1)) hx hb dX6_refusesAdding_7 (by decide) ?_
    exact W.iret (v := (nI 1)) hx hb hr (fun t ht hW => ⟨_, rfl, (show (nI 1) = (nI (cdAdd S cn w x)) from by first | rfl | (first | (simp [cdAdd, c_4] <;> rfl))), ht⟩) (fun q hq => absurd hq List.not_mem_nil) dX6_refusesAdding_8
theorem hdX6_lay : yX6_lay.cls = RX6 ∧ yX6_lay.cls ≠ "java/lang/invoke/MethodHandle" ∧ yX6_lay.cls ≠ "java/lang/invoke/VarHandle" ∧ (parseMethodDescriptor yX6_lay.desc).map (fun d => d.parameters.length) = some 3 := by decide +kernel
set_option maxHeartbeats 4000000 in
set_option maxRecDepth 100000 in
theorem kX6_adds (l : Launch) (dC : Nat → ClassId) (dI : Nat → Nat → Nat) (cI cV cW : ClassId) (sz : Nat) (o : Nat) (th : Int32) (aS : Nat) (aA : Nat) (aV : Nat) (sm : Int32) (aB : Nat) (ln : Int32) (at_ : Int32) (wl : Int32) (aR : Nat) (rm : Int32) (ga : Int32) (fi : Int32) (se : Int32) (ex : Int32) (ha : Int64) (S : Nat → Int32) (cn : Nat) (w : Int32) (h_ : Int32) (hR : RO S cn) (hcn : cn < 16) : Met l yX6_adds wsX6_adds ({ frames := 1, cells := 0, slots := 0, locals := 23 }) (pW (dC, dI) (tyS cI cV cW) sz [.ref o, .int w, .int h_] [(o, .inr (4, [.int th, .ref aS, .ref aA, .ref aV, .int sm, .ref aB, .int ln, .int at_, .int wl, .ref aR, .int rm, .int ga, .int fi, .int se, .int ex, .long ha])), (aS, .inl (cI, 96, .inl S))]) (va_Qi (fun (r_ : Int32) (_ : Unit) => r_ = (nI cn)) (fun (_ : Unit) t => qB (dC, dI) (tyS cI cV cW) (va_A [(o, .inr (4, [.int th, .ref aS, .ref aA, .ref aV, .int sm, .ref aB, .int ln, .int at_, .int wl, .ref aR, .int rm, .int ga, .int fi, .int se, .int ex, .long ha])), (aS, .inl (cI, 96, .inl S))] sz) [(o, .inr (4, [.int th, .ref aS, .ref aA, .ref aV, .int sm, .ref aB, .int ln, .int at_, .int wl, .ref aR, .int rm, .int ga, .int fi, .int se, .int ex, .long ha])), (aS, .inl (cI, 96, .inl (fAdds S cn w h_)))] t) (va_A [(o, .inr (4, [.int th, .ref aS, .ref aA, .ref aV, .int sm, .ref aB, .int ln, .int at_, .int wl, .ref aR, .int rm, .int ga, .int fi, .int se, .int ex, .long ha])), (aS, .inl (cI, 96, .inl S))] sz)) 0 0 (va_A [(o, .inr (4, [.int th, .ref aS, .ref aA, .ref aV, .int sm, .ref aB, .int ln, .int at_, .int wl, .ref aR, .int rm, .int ga, .int fi, .int se, .int ex, .long ha])), (aS, .inl (cI, 96, .inl S))] sz) := by
  refine Met.ofW (cc := cX6_adds) (maxL := 4) (ret := (some .int)) (by decide) rfl ?_
  intro p e s m args below meth c s₁ B hml hv
  obtain ⟨rfl, hsz, hP, hK, hD0⟩ := hv
  have hx := B.exec
  have hb := B.bytes
  have hr := B.returns
  have hts := atoms_spec (ws := wsX6_adds) B.pre
  have hown : s.vm.findClass RX6 = some m.cls := findClass_of_methodNamed B.named
  have hlocks := B.notSynchronized
  subst hsz
  have hD := hD0.self (sz := s.heap.size)
  generalize hAe : va_A [(o, .inr (4, [.int th, .ref aS, .ref aA, .ref aV, .int sm, .ref aB, .int ln, .int at_, .int wl, .ref aR, .int rm, .int ga, .int fi, .int se, .int ex, .long ha])), (aS, .inl (cI, 96, .inl S))] s.heap.size = A at hD ⊢
  have hA : ∀ q : Nat, s.heap.size ≤ q → A q := fun q h => by rw [← hAe]; exact Or.inr h
  have hS : va_S A s.heap s.heap [] := va_S.rf
  refine w_gen hP hS (fun H locs hP hS => ?_)
  have hf7 := hts (.fieldLink RX6 7 "VaultShelvesModel" "s" "[I") (by decide +kernel)
  have hiX6 : ∀ w ∈ u_ws RX6 TX6 16, w ∈ wsX6_adds := by decide +kernel
  have hl := lv_entry ([.ref o, .int w, .int h_]) (n := 4) (Nat.le_of_ble_eq_true rfl)
  rw [lg_entry_eq]
  generalize (lg_sl ([.ref o, .int w, .int h_]) ++ List.replicate (4 - (lg_sl ([.ref o, .int w, .int h_])).length) Slot.unset).toArray = ls at hl ⊢
  replace hl : lv_has ls 4 [(0, .ref o), (1, .int w), (2, .int h_)] := hl
  refine lv_aload_n hx hb dX6_adds_0 rfl (lv_at hl 0 rfl) ?_
  refine va_get (D := (dC, dI)) (ci := 4) (v := .ref aS) (C := RX6) (T := TX6) (N := 16) hx hb hts hiX6 hown hK hP 0 rfl rfl 1 (by decide) hf7 (fun _ h9 => h9) rfl dX6_adds_1 ?_
  refine lv_iconst (v := (nI 0)) hx hb dX6_adds_4 (by decide) ?_
  refine n_iald hx hb hK hP 1 0 rfl rfl (show 0 < 96 from by omega) (by decide) dX6_adds_5 ?_
  refine lv_cgi (show (S 0) = (nI cn) from hR.1) ?_
  refine lv_istore_n (lv' := [(3, .int (nI cn)), (0, .ref o), (1, .int w), (2, .int h_)]) hx hb dX6_adds_6 rfl hl (by decide) rfl (fun ls hl => ?_)
  refine lv_aload_n hx hb dX6_adds_7 rfl (lv_at hl 1 rfl) ?_
  refine lv_iload_n hx hb dX6_adds_8 rfl (lv_at hl 0 rfl) ?_
  refine lv_iconst (v := (nI 0)) hx hb dX6_adds_9 (by decide) ?_
  refine lv_iload_n hx hb dX6_adds_10 rfl (lv_at hl 2 rfl) ?_
  have hPc := hP.sub (ws' := [(o, .inr (4, [.int th, .ref aS, .ref aA, .ref aV, .int sm, .ref aB, .int ln, .int at_, .int wl, .ref aR, .int rm, .int ga, .int fi, .int se, .int ex, .long ha])), (aS, .inl (cI, 96, .inl S))]) [0, 1] rfl
  have hDc := hD.sub (ws' := [(o, .inr (4, [.int th, .ref aS, .ref aA, .ref aV, .int sm, .ref aB, .int ln, .int at_, .int wl, .ref aR, .int rm, .int ga, .int fi, .int se, .int ex, .long ha])), (aS, .inl (cI, 96, .inl S))]) [0, 1] (by decide) rfl
  have hFc := va_free (wc := [(o, .inr (4, [.int th, .ref aS, .ref aA, .ref aV, .int sm, .ref aB, .int ln, .int at_, .int wl, .ref aR, .int rm, .int ga, .int fi, .int se, .int ex, .long ha])), (aS, .inl (cI, 96, .inl S))]) hD hS hA [0, 1] rfl
  refine va_callv (va_runV (As := [.int (nI cn), .int (nI 0), .int w]) (rest := []) ⟨hx, hb, hml, hown, hts⟩ (kX6_lay l dC dI cI cV cW H.size o th aS aA aV sm aB ln at_ wl aR rm ga fi se ex ha S cn 0 w (by omega) (by omega)) (cwV 3 hts gX6_adds_X6_lay rfl rfl rfl hdX6_lay ⟨Nat.le_of_ble_eq_true rfl, Nat.le_of_ble_eq_true rfl⟩) (pW_V hK hP hPc hDc 0 4 rfl rfl rfl) rfl rfl hl.1 rfl (lv_room (Nat.le_of_ble_eq_true rfl)) dX6_adds_11 ⟨Nat.zero_le _, Nat.zero_le _⟩) hS (fun q _ h => hFc q h) hFc (fun u_ t_ H1 locs ht_ hvm_ hw_ hB_ hz_ hk_ hS => ?_)
  obtain ⟨hP1, -, hD1⟩ := hB_
  rw [ht_] at hP1
  obtain ⟨hP, hD⟩ := va_join (wr := []) (w1 := [(o, .inr (4, [.int th, .ref aS, .ref aA, .ref aV, .int sm, .ref aB, .int ln, .int at_, .int wl, .ref aR, .int rm, .int ga, .int fi, .int se, .int ex, .long ha])), (aS, .inl (cI, 96, .inl (upd S (15 + (5 * cn) + 0) w)))]) hP hD [0, 1] [] rfl rfl (by decide) (by decide) hk_ hFc hP1 hD1
  clear hP1 hD1 hPc hDc hFc hk_ hz_ hvm_ ht_
  generalize H1 = H at hP hS ⊢
  replace hP : va_P (dC, dI) vwCl [(o, .inr (4, [.int th, .ref aS, .ref aA, .ref aV, .int sm, .ref aB, .int ln, .int at_, .int wl, .ref aR, .int rm, .int ga, .int fi, .int se, .int ex, .long ha])), (aS, .inl (cI, 96, .inl (upd S (15 + (5 * cn) + 0) w)))] H := hP
  replace hD : va_D A [(o, .inr (4, [.int th, .ref aS, .ref aA, .ref aV, .int sm, .ref aB, .int ln, .int at_, .int wl, .ref aR, .int rm, .int ga, .int fi, .int se, .int ex, .long ha])), (aS, .inl (cI, 96, .inl (upd S (15 + (5 * cn) + 0) w)))] := hD
  refine W.widen (k := 0) (n := 0) (Nat.le_refl 0) (Nat.le_refl 0) ?_
  refine lv_aload_n hx hb dX6_adds_14 rfl (lv_at hl 1 rfl) ?_
  refine lv_iload_n hx hb dX6_adds_15 rfl (lv_at hl 0 rfl) ?_
  refine lv_iconst (v := (nI 1)) hx hb dX6_adds_16 (by decide) ?_
  refine lv_iload_n hx hb dX6_adds_17 rfl (lv_at hl 3 rfl) ?_
  have hPc := hP.sub (ws' := [(o, .inr (4, [.int th, .ref aS, .ref aA, .ref aV, .int sm, .ref aB, .int ln, .int at_, .int wl, .ref aR, .int rm, .int ga, .int fi, .int se, .int ex, .long ha])), (aS, .inl (cI, 96, .inl (upd S (15 + (5 * cn) + 0) w)))]) [0, 1] rfl
  have hDc := hD.sub (ws' := [(o, .inr (4, [.int th, .ref aS, .ref aA, .ref aV, .int sm, .ref aB, .int ln, .int at_, .int wl, .ref aR, .int rm, .int ga, .int fi, .int se, .int ex, .long ha])), (aS, .inl (cI, 96, .inl (upd S (15 + (5 * cn) + 0) w)))]) [0, 1] (by decide) rfl
  have hFc := va_free (wc := [(o, .inr (4, [.int th, .ref aS, .ref aA, .ref aV, .int sm, .ref aB, .int ln, .int at_, .int wl, .ref aR, .int rm, .int ga, .int fi, .int se, .int ex, .long ha])), (aS, .inl (cI, 96, .inl (upd S (15 + (5 * cn) + 0) w)))]) hD hS hA [0, 1] rfl
  refine va_callv (va_runV (As := [.int (nI cn), .int (nI 1), .int h_]) (rest := []) ⟨hx, hb, hml, hown, hts⟩ (kX6_lay l dC dI cI cV cW H.size o th aS aA aV sm aB ln at_ wl aR rm ga fi se ex ha (upd S (15 + (5 * cn) + 0) w) cn 1 h_ (by omega) (by omega)) (cwV 3 hts gX6_adds_X6_lay rfl rfl rfl hdX6_lay ⟨Nat.le_of_ble_eq_true rfl, Nat.le_of_ble_eq_true rfl⟩) (pW_V hK hP hPc hDc 0 4 rfl rfl rfl) rfl rfl hl.1 rfl (lv_room (Nat.le_of_ble_eq_true rfl)) dX6_adds_18 ⟨Nat.zero_le _, Nat.zero_le _⟩) hS (fun q _ h => hFc q h) hFc (fun u_ t_ H1 locs ht_ hvm_ hw_ hB_ hz_ hk_ hS => ?_)
  obtain ⟨hP1, -, hD1⟩ := hB_
  rw [ht_] at hP1
  obtain ⟨hP, hD⟩ := va_join (wr := []) (w1 := [(o, .inr (4, [.int th, .ref aS, .ref aA, .ref aV, .int sm, .ref aB, .int ln, .int at_, .int wl, .ref aR, .int rm, .int ga, .int fi, .int se, .int ex, .long ha])), (aS, .inl (cI, 96, .inl (upd (upd S (15 + (5 * cn) + 0) w) (15 + (5 * cn) + 1) h_)))]) hP hD [0, 1] [] rfl rfl (by decide) (by decide) hk_ hFc hP1 hD1
  clear hP1 hD1 hPc hDc hFc hk_ hz_ hvm_ ht_
  generalize H1 = H at hP hS ⊢
  replace hP : va_P (dC, dI) vwCl [(o, .inr (4, [.int th, .ref aS, .ref aA, .ref aV, .int sm, .ref aB, .int ln, .int at_, .int wl, .ref aR, .int rm, .int ga, .int fi, .int se, .int ex, .long ha])), (aS, .inl (cI, 96, .inl (upd (upd S (15 + (5 * cn) + 0) w) (15 + (5 * cn) + 1) h_)))] H := hP
  replace hD : va_D A [(o, .inr (4, [.int th, .ref aS, .ref aA, .ref aV, .int sm, .ref aB, .int ln, .int at_, .int wl, .ref aR, .int rm, .int ga, .int fi, .int se, .int ex, .long ha])), (aS, .inl (cI, 96, .inl (upd (upd S (15 + (5 * cn) + 0) w) (15 + (5 * cn) + 1) h_)))] := hD
  refine W.widen (k := 0) (n := 0) (Nat.le_refl 0) (Nat.le_refl 0) ?_
  refine lv_aload_n hx hb dX6_adds_21 rfl (lv_at hl 1 rfl) ?_
  refine lv_iload_n hx hb dX6_adds_22 rfl (lv_at hl 0 rfl) ?_
  refine lv_iconst (v := (nI 2)) hx hb dX6_adds_23 (by decide) ?_
  refine lv_iload_n hx hb dX6_adds_24 rfl (lv_at hl 3 rfl) ?_
  have hPc := hP.sub (ws' := [(o, .inr (4, [.int th, .ref aS, .ref aA, .ref aV, .int sm, .ref aB, .int ln, .int at_, .int wl, .ref aR, .int rm, .int ga, .int fi, .int se, .int ex, .long ha])), (aS, .inl (cI, 96, .inl (upd (upd S (15 + (5 * cn) + 0) w) (15 + (5 * cn) + 1) h_)))]) [0, 1] rfl
  have hDc := hD.sub (ws' := [(o, .inr (4, [.int th, .ref aS, .ref aA, .ref aV, .int sm, .ref aB, .int ln, .int at_, .int wl, .ref aR, .int rm, .int ga, .int fi, .int se, .int ex, .long ha])), (aS, .inl (cI, 96, .inl (upd (upd S (15 + (5 * cn) + 0) w) (15 + (5 * cn) + 1) h_)))]) [0, 1] (by decide) rfl
  have hFc := va_free (wc := [(o, .inr (4, [.int th, .ref aS, .ref aA, .ref aV, .int sm, .ref aB, .int ln, .int at_, .int wl, .ref aR, .int rm, .int ga, .int fi, .int se, .int ex, .long ha])), (aS, .inl (cI, 96, .inl (upd (upd S (15 + (5 * cn) + 0) w) (15 + (5 * cn) + 1) h_)))]) hD hS hA [0, 1] rfl
  refine va_callv (va_runV (As := [.int (nI cn), .int (nI 2), .int h_]) (rest := []) ⟨hx, hb, hml, hown, hts⟩ (kX6_lay l dC dI cI cV cW H.size o th aS aA aV sm aB ln at_ wl aR rm ga fi se ex ha (upd (upd S (15 + (5 * cn) + 0) w) (15 + (5 * cn) + 1) h_) cn 2 h_ (by omega) (by omega)) (cwV 3 hts gX6_adds_X6_lay rfl rfl rfl hdX6_lay ⟨Nat.le_of_ble_eq_true rfl, Nat.le_of_ble_eq_true rfl⟩) (pW_V hK hP hPc hDc 0 4 rfl rfl rfl) rfl rfl hl.1 rfl (lv_room (Nat.le_of_ble_eq_true rfl)) dX6_adds_25 ⟨Nat.zero_le _, Nat.zero_le _⟩) hS (fun q _ h => hFc q h) hFc (fun u_ t_ H1 locs ht_ hvm_ hw_ hB_ hz_ hk_ hS => ?_)
  obtain ⟨hP1, -, hD1⟩ := hB_
  rw [ht_] at hP1
  obtain ⟨hP, hD⟩ := va_join (wr := []) (w1 := [(o, .inr (4, [.int th, .ref aS, .ref aA, .ref aV, .int sm, .ref aB, .int ln, .int at_, .int wl, .ref aR, .int rm, .int ga, .int fi, .int se, .int ex, .long ha])), (aS, .inl (cI, 96, .inl (upd (upd (upd S (15 + (5 * cn) + 0) w) (15 + (5 * cn) + 1) h_) (15 + (5 * cn) + 2) h_)))]) hP hD [0, 1] [] rfl rfl (by decide) (by decide) hk_ hFc hP1 hD1
  clear hP1 hD1 hPc hDc hFc hk_ hz_ hvm_ ht_
  generalize H1 = H at hP hS ⊢
  replace hP : va_P (dC, dI) vwCl [(o, .inr (4, [.int th, .ref aS, .ref aA, .ref aV, .int sm, .ref aB, .int ln, .int at_, .int wl, .ref aR, .int rm, .int ga, .int fi, .int se, .int ex, .long ha])), (aS, .inl (cI, 96, .inl (upd (upd (upd S (15 + (5 * cn) + 0) w) (15 + (5 * cn) + 1) h_) (15 + (5 * cn) + 2) h_)))] H := hP
  replace hD : va_D A [(o, .inr (4, [.int th, .ref aS, .ref aA, .ref aV, .int sm, .ref aB, .int ln, .int at_, .int wl, .ref aR, .int rm, .int ga, .int fi, .int se, .int ex, .long ha])), (aS, .inl (cI, 96, .inl (upd (upd (upd S (15 + (5 * cn) + 0) w) (15 + (5 * cn) + 1) h_) (15 + (5 * cn) + 2) h_)))] := hD
  refine W.widen (k := 0) (n := 0) (Nat.le_refl 0) (Nat.le_refl 0) ?_
  refine lv_aload_n hx hb dX6_adds_28 rfl (lv_at hl 1 rfl) ?_
  refine va_get (D := (dC, dI)) (ci := 4) (v := .ref aS) (C := RX6) (T := TX6) (N := 16) hx hb hts hiX6 hown hK hP 0 rfl rfl 1 (by decide) hf7 (fun _ h9 => h9) rfl dX6_adds_29 ?_
  refine lv_iconst (v := (nI 0)) hx hb dX6_adds_32 (by decide) ?_
  refine lv_dup2_11 hx hb dX6_adds_33 rfl rfl ?_
  refine n_iald hx hb hK hP 1 0 rfl rfl (show 0 < 96 from by omega) (by decide) dX6_adds_34 ?_
  refine lv_cgi (show ((upd (upd (upd S (15 + (5 * cn) + 0) w) (15 + (5 * cn) + 1) h_) (15 + (5 * cn) + 2) h_) 0) = (nI cn) from (by rw [pk_un (by omega), pk_un (by omega), pk_un (by omega)]; exact hR.1)) ?_
  refine lv_iconst (v := (nI 1)) hx hb dX6_adds_35 (by decide) ?_
  refine n_iadd hx hb dX6_adds_36 ?_
  refine n_iast hx hb hK hP hD hS 1 0 rfl rfl (show 0 < 96 from by omega) (by decide) dX6_adds_37 (fun H locs hP hD hS => ?_)
  replace hP : va_P (dC, dI) vwCl [(o, .inr (4, [.int th, .ref aS, .ref aA, .ref aV, .int sm, .ref aB, .int ln, .int at_, .int wl, .ref aR, .int rm, .int ga, .int fi, .int se, .int ex, .long ha])), (aS, .inl (cI, 96, .inl (upd (upd (upd (upd S (15 + (5 * cn) + 0) w) (15 + (5 * cn) + 1) h_) (15 + (5 * cn) + 2) h_) 0 (nI (cn + 1)))))] H := hP
  replace hD : va_D A [(o, .inr (4, [.int th, .ref aS, .ref aA, .ref aV, .int sm, .ref aB, .int ln, .int at_, .int wl, .ref aR, .int rm, .int ga, .int fi, .int se, .int ex, .long ha])), (aS, .inl (cI, 96, .inl (upd (upd (upd (upd S (15 + (5 * cn) + 0) w) (15 + (5 * cn) + 1) h_) (15 + (5 * cn) + 2) h_) 0 (nI (cn + 1)))))] := hD
  refine lv_iload_n hx hb dX6_adds_38 rfl (lv_at hl 0 rfl) ?_
  have ec_r39_1_aS : upd (upd (upd (upd S (15 + (5 * cn) + 0) w) (15 + (5 * cn) + 1) h_) (15 + (5 * cn) + 2) h_) 0 (nI (cn + 1)) = fAdds S cn w h_ := by first | rfl | (rfl)
  have ew_r39_1 : ([(o, .inr (4, [.int th, .ref aS, .ref aA, .ref aV, .int sm, .ref aB, .int ln, .int at_, .int wl, .ref aR, .int rm, .int ga, .int fi, .int se, .int ex, .long ha])), (aS, .inl (cI, 96, .inl (upd (upd (upd (upd S (15 + (5 * cn) + 0) w) (15 + (5 * cn) + 1) h_) (15 + (5 * cn) + 2) h_) 0 (nI (cn + 1)))))] : va_W) = [(o, .inr (4, [.int th, .ref aS, .ref aA, .ref aV, .int sm, .ref aB, .int ln, .int at_, .int wl, .ref aR, .int rm, .int ga, .int fi, .int se, .int ex, .long ha])), (aS, .inl (cI, 96, .inl (fAdds S cn w h_)))] := (congrArg (fun z_ => ([(o, .inr (4, [.int th, .ref aS, .ref aA, .ref aV, .int sm, .ref aB, .int ln, .int at_, .int wl, .ref aR, .int rm, .int ga, .int fi, .int se, .int ex, .long ha])), (aS, .inl (cI, 96, .inl z_))] : va_W)) ec_r39_1_aS)
  have hP9 := (w_cgP ew_r39_1 hP)
  have hD9 := (w_cgD ew_r39_1 hD)
  exact W.iret (v := (nI cn)) hx hb hr (fun t ht hW => ⟨⟨(nI cn), (), rfl, rfl, by rw [ht]; exact hP9, va_K.moved hW.alike hK, hD9⟩, hS.F ht⟩) hS.2.2 dX6_adds_39
theorem hdX6_refusesAdding : yX6_refusesAdding.cls = RX6 ∧ yX6_refusesAdding.cls ≠ "java/lang/invoke/MethodHandle" ∧ yX6_refusesAdding.cls ≠ "java/lang/invoke/VarHandle" ∧ (parseMethodDescriptor yX6_refusesAdding.desc).map (fun d => d.parameters.length) = some 2 := by decide +kernel
theorem hdX6_adds : yX6_adds.cls = RX6 ∧ yX6_adds.cls ≠ "java/lang/invoke/MethodHandle" ∧ yX6_adds.cls ≠ "java/lang/invoke/VarHandle" ∧ (parseMethodDescriptor yX6_adds.desc).map (fun d => d.parameters.length) = some 2 := by decide +kernel
set_option maxHeartbeats 4000000 in
set_option maxRecDepth 100000 in
theorem kX6_addRecord (l : Launch) (dC : Nat → ClassId) (dI : Nat → Nat → Nat) (cI cV cW : ClassId) (sz : Nat) (o : Nat) (th : Int32) (aS : Nat) (aA : Nat) (aV : Nat) (aB : Nat) (ln : Int32) (at_ : Int32) (wl : Int32) (aR : Nat) (rm : Int32) (ga : Int32) (fi : Int32) (se : Int32) (ex : Int32) (ha : Int64) (S : Nat → Int32) (cn : Nat) (V : Nat → Int32) (n : Nat) (w : Int32) (x : Int32) (hR : RO S cn) (hn : n ≤ 6) : Met l yX6_addRecord wsX6_addRecord ({ frames := 4, cells := 0, slots := 0, locals := 88 }) (pW (dC, dI) (tyS cI cV cW) sz [.ref o, .int w, .int x] [(o, .inr (4, [.int th, .ref aS, .ref aA, .ref aV, .int (nI n), .ref aB, .int ln, .int at_, .int wl, .ref aR, .int rm, .int ga, .int fi, .int se, .int ex, .long ha])), (aS, .inl (cI, 96, .inl S)), (aV, .inl (cI, 576, .inl V))]) (va_Qi (fun (r_ : Int32) (_ : Unit) => r_ = (if cdAdd S cn w x = 0 then nI cn else 0)) (fun (_ : Unit) t => qB (dC, dI) (tyS cI cV cW) (va_A [(o, .inr (4, [.int th, .ref aS, .ref aA, .ref aV, .int (nI n), .ref aB, .int ln, .int at_, .int wl, .ref aR, .int rm, .int ga, .int fi, .int se, .int ex, .long ha])), (aS, .inl (cI, 96, .inl S)), (aV, .inl (cI, 576, .inl V))] sz) [(o, .inr (4, [.int (nI (cdAdd S cn w x)), .ref aS, .ref aA, .ref aV, .int (nI (if cdAdd S cn w x = 0 then svN n else n)), .ref aB, .int ln, .int at_, .int wl, .ref aR, .int rm, .int ga, .int fi, .int se, .int ex, .long ha])), (aS, .inl (cI, 96, .inl (if cdAdd S cn w x = 0 then fAdds S cn w x else S))), (aV, .inl (cI, 576, .inl (if cdAdd S cn w x = 0 then svV S V n else V)))] t) (va_A [(o, .inr (4, [.int th, .ref aS, .ref aA, .ref aV, .int (nI n), .ref aB, .int ln, .int at_, .int wl, .ref aR, .int rm, .int ga, .int fi, .int se, .int ex, .long ha])), (aS, .inl (cI, 96, .inl S)), (aV, .inl (cI, 576, .inl V))] sz)) 0 0 (va_A [(o, .inr (4, [.int th, .ref aS, .ref aA, .ref aV, .int (nI n), .ref aB, .int ln, .int at_, .int wl, .ref aR, .int rm, .int ga, .int fi, .int se, .int ex, .long ha])), (aS, .inl (cI, 96, .inl S)), (aV, .inl (cI, 576, .inl V))] sz) := by
  refine Met.ofW (cc := cX6_addRecord) (maxL := 4) (ret := (some .int)) (by decide) rfl ?_
  intro p e s m args below meth c s₁ B hml hv
  obtain ⟨rfl, hsz, hP, hK, hD0⟩ := hv
  have hx := B.exec
  have hb := B.bytes
  have hr := B.returns
  have hts := atoms_spec (ws := wsX6_addRecord) B.pre
  have hown : s.vm.findClass RX6 = some m.cls := findClass_of_methodNamed B.named
  have hlocks := B.notSynchronized
  subst hsz
  have hD := hD0.self (sz := s.heap.size)
  generalize hAe : va_A [(o, .inr (4, [.int th, .ref aS, .ref aA, .ref aV, .int (nI n), .ref aB, .int ln, .int at_, .int wl, .ref aR, .int rm, .int ga, .int fi, .int se, .int ex, .long ha])), (aS, .inl (cI, 96, .inl S)), (aV, .inl (cI, 576, .inl V))] s.heap.size = A at hD ⊢
  have hA : ∀ q : Nat, s.heap.size ≤ q → A q := fun q h => by rw [← hAe]; exact Or.inr h
  have hS : va_S A s.heap s.heap [] := va_S.rf
  refine w_gen hP hS (fun H locs hP hS => ?_)
  have hf25 := hts (.fieldLink RX6 25 "VaultShelvesModel" "thrown" "I") (by decide +kernel)
  have hiX6 : ∀ w ∈ u_ws RX6 TX6 16, w ∈ wsX6_addRecord := by decide +kernel
  have hl := lv_entry ([.ref o, .int w, .int x]) (n := 4) (Nat.le_of_ble_eq_true rfl)
  rw [lg_entry_eq]
  generalize (lg_sl ([.ref o, .int w, .int x]) ++ List.replicate (4 - (lg_sl ([.ref o, .int w, .int x])).length) Slot.unset).toArray = ls at hl ⊢
  replace hl : lv_has ls 4 [(0, .ref o), (1, .int w), (2, .int x)] := hl
  have hc := hR.2.1
  have hcd := cdAdd_le S cn w x
  refine lv_aload_n hx hb dX6_addRecord_0 rfl (lv_at hl 0 rfl) ?_
  refine lv_iconst (v := (nI 0)) hx hb dX6_addRecord_1 (by decide) ?_
  refine va_put (D := (dC, dI)) (ci := 4) (v := .int (nI 0)) (ty := .int) (C := RX6) (T := TX6) (N := 16) hx hb hts hiX6 tyX6 tyX6_ok nmX6 hown hK hP hD hS 0 rfl rfl 0 (by decide) hf25 (fun _ h9 => h9) rfl (by decide +kernel) rfl rfl (Nat.le_of_ble_eq_true rfl) dX6_addRecord_2 (fun H locs hP hD hS => ?_)
  replace hP : va_P (dC, dI) vwCl [(o, .inr (4, [.int (nI 0), .ref aS, .ref aA, .ref aV, .int (nI n), .ref aB, .int ln, .int at_, .int wl, .ref aR, .int rm, .int ga, .int fi, .int se, .int ex, .long ha])), (aS, .inl (cI, 96, .inl S)), (aV, .inl (cI, 576, .inl V))] H := hP
  replace hD : va_D A [(o, .inr (4, [.int (nI 0), .ref aS, .ref aA, .ref aV, .int (nI n), .ref aB, .int ln, .int at_, .int wl, .ref aR, .int rm, .int ga, .int fi, .int se, .int ex, .long ha])), (aS, .inl (cI, 96, .inl S)), (aV, .inl (cI, 576, .inl V))] := hD
  refine lv_aload_n hx hb dX6_addRecord_5 rfl (lv_at hl 0 rfl) ?_
  refine lv_iload_n hx hb dX6_addRecord_6 rfl (lv_at hl 1 rfl) ?_
  refine lv_iload_n hx hb dX6_addRecord_7 rfl (lv_at hl 2 rfl) ?_
  refine vp_callSi (W.runV (As := [.int w, .int x]) (rest := []) ⟨hx, hb, hml, hown, hts⟩ (kX6_refusesAdding l dC dI cI cV cW o 0 aS aA aV (nI n) aB ln at_ wl aR rm ga fi se ex ha S cn w x (hR)) (cwV 2 hts gX6_addRecord_X6_refusesAdding rfl rfl rfl hdX6_refusesAdding ⟨Nat.le_of_ble_eq_true rfl, Nat.le_of_ble_eq_true rfl⟩) (pR_V hK hP 0 4 rfl rfl rfl [0, 1] rfl) rfl rfl hl.1 rfl (lv_room (Nat.le_of_ble_eq_true rfl)) dX6_addRecord_8 ⟨Nat.zero_le _, Nat.zero_le _⟩) (fun r_8 hr_ => ?_)
  subst hr_
  refine lv_istore_n (lv' := [(3, .int (nI (cdAdd S cn w x))), (0, .ref o), (1, .int w), (2, .int x)]) hx hb dX6_addRecord_11 rfl hl (by decide) rfl (fun ls hl => ?_)
  refine lv_iload_n hx hb dX6_addRecord_12 rfl (lv_at hl 0 rfl) ?_
  refine n_if_eq (tgt := 22) hx hb dX6_addRecord_13 (by decide) (by omega) (fun c_13 => ?_) (fun c_13 => ?_)
  · have h0 := cdAdd_0 c_13
    refine lv_aload_n hx hb dX6_addRecord_22 rfl (lv_at hl 1 rfl) ?_
    have hPc := hP.sub (ws' := [(o, .inr (4, [.int (nI 0), .ref aS, .ref aA, .ref aV, .int (nI n), .ref aB, .int ln, .int at_, .int wl, .ref aR, .int rm, .int ga, .int fi, .int se, .int ex, .long ha])), (aS, .inl (cI, 96, .inl S)), (aV, .inl (cI, 576, .inl V))]) [0, 1, 2] rfl
    have hDc := hD.sub (ws' := [(o, .inr (4, [.int (nI 0), .ref aS, .ref aA, .ref aV, .int (nI n), .ref aB, .int ln, .int at_, .int wl, .ref aR, .int rm, .int ga, .int fi, .int se, .int ex, .long ha])), (aS, .inl (cI, 96, .inl S)), (aV, .inl (cI, 576, .inl V))]) [0, 1, 2] (by decide) rfl
    have hFc := va_free (wc := [(o, .inr (4, [.int (nI 0), .ref aS, .ref aA, .ref aV, .int (nI n), .ref aB, .int ln, .int at_, .int wl, .ref aR, .int rm, .int ga, .int fi, .int se, .int ex, .long ha])), (aS, .inl (cI, 96, .inl S)), (aV, .inl (cI, 576, .inl V))]) hD hS hA [0, 1, 2] rfl
    refine va_callv (va_runV (As := []) (rest := []) ⟨hx, hb, hml, hown, hts⟩ (kX6_saves l dC dI cI cV cW H.size o 0 aS aA aV aB ln at_ wl aR rm ga fi se ex ha S V n (hn)) (cwV 0 hts gX6_addRecord_X6_saves rfl rfl rfl hdX6_saves ⟨Nat.le_of_ble_eq_true rfl, Nat.le_of_ble_eq_true rfl⟩) (pW_V hK hP hPc hDc 0 4 rfl rfl rfl) rfl rfl hl.1 rfl (lv_room (Nat.le_of_ble_eq_true rfl)) dX6_addRecord_23 ⟨Nat.zero_le _, Nat.zero_le _⟩) hS (fun q _ h => hFc q h) hFc (fun u_ t_ H1 locs ht_ hvm_ hw_ hB_ hz_ hk_ hS => ?_)
    obtain ⟨hP1, -, hD1⟩ := hB_
    rw [ht_] at hP1
    obtain ⟨hP, hD⟩ := va_join (wr := []) (w1 := [(o, .inr (4, [.int (nI 0), .ref aS, .ref aA, .ref aV, .int (nI (svN n)), .ref aB, .int ln, .int at_, .int wl, .ref aR, .int rm, .int ga, .int fi, .int se, .int ex, .long ha])), (aS, .inl (cI, 96, .inl S)), (aV, .inl (cI, 576, .inl (svV S V n)))]) hP hD [0, 1, 2] [] rfl rfl (by decide) (by decide) hk_ hFc hP1 hD1
    clear hP1 hD1 hPc hDc hFc hk_ hz_ hvm_ ht_
    generalize H1 = H at hP hS ⊢
    replace hP : va_P (dC, dI) vwCl [(o, .inr (4, [.int (nI 0), .ref aS, .ref aA, .ref aV, .int (nI (svN n)), .ref aB, .int ln, .int at_, .int wl, .ref aR, .int rm, .int ga, .int fi, .int se, .int ex, .long ha])), (aS, .inl (cI, 96, .inl S)), (aV, .inl (cI, 576, .inl (svV S V n)))] H := hP
    replace hD : va_D A [(o, .inr (4, [.int (nI 0), .ref aS, .ref aA, .ref aV, .int (nI (svN n)), .ref aB, .int ln, .int at_, .int wl, .ref aR, .int rm, .int ga, .int fi, .int se, .int ex, .long ha])), (aS, .inl (cI, 96, .inl S)), (aV, .inl (cI, 576, .inl (svV S V n)))] := hD
    refine W.widen (k := 0) (n := 0) (Nat.le_refl 0) (Nat.le_refl 0) ?_
    refine lv_aload_n hx hb dX6_addRecord_26 rfl (lv_at hl 1 rfl) ?_
    refine lv_iload_n hx hb dX6_addRecord_27 rfl (lv_at hl 2 rfl) ?_
    refine lv_iload_n hx hb dX6_addRecord_28 rfl (lv_at hl 3 rfl) ?_
    have hPc := hP.sub (ws' := [(o, .inr (4, [.int (nI 0), .ref aS, .ref aA, .ref aV, .int (nI (svN n)), .ref aB, .int ln, .int at_, .int wl, .ref aR, .int rm, .int ga, .int fi, .int se, .int ex, .long ha])), (aS, .inl (cI, 96, .inl S))]) [0, 1] rfl
    have hDc := hD.sub (ws' := [(o, .inr (4, [.int (nI 0), .ref aS, .ref aA, .ref aV, .int (nI (svN n)), .ref aB, .int ln, .int at_, .int wl, .ref aR, .int rm, .int ga, .int fi, .int se, .int ex, .long ha])), (aS, .inl (cI, 96, .inl S))]) [0, 1] (by decide) rfl
    have hFc := va_free (wc := [(o, .inr (4, [.int (nI 0), .ref aS, .ref aA, .ref aV, .int (nI (svN n)), .ref aB, .int ln, .int at_, .int wl, .ref aR, .int rm, .int ga, .int fi, .int se, .int ex, .long ha])), (aS, .inl (cI, 96, .inl S))]) hD hS hA [0, 1] rfl
    refine va_calli (va_runV (As := [.int w, .int x]) (rest := []) ⟨hx, hb, hml, hown, hts⟩ (kX6_adds l dC dI cI cV cW H.size o 0 aS aA aV (nI (svN n)) aB ln at_ wl aR rm ga fi se ex ha S cn w x (hR) (by omega)) (cwV 2 hts gX6_addRecord_X6_adds rfl rfl rfl hdX6_adds ⟨Nat.le_of_ble_eq_true rfl, Nat.le_of_ble_eq_true rfl⟩) (pW_V hK hP hPc hDc 0 4 rfl rfl rfl) rfl rfl hl.1 rfl (lv_room (Nat.le_of_ble_eq_true rfl)) dX6_addRecord_29 ⟨Nat.zero_le _, Nat.zero_le _⟩) hS (fun q _ h => hFc q h) hFc (fun r_29 u_ t_ H1 locs ht_ hvm_ hw_ hB_ hz_ hk_ hS => ?_)
    obtain ⟨hP1, -, hD1⟩ := hB_
    rw [ht_] at hP1
    obtain ⟨hP, hD⟩ := va_join (wr := [(aV, .inl (cI, 576, .inl (svV S V n)))]) (w1 := [(o, .inr (4, [.int (nI 0), .ref aS, .ref aA, .ref aV, .int (nI (svN n)), .ref aB, .int ln, .int at_, .int wl, .ref aR, .int rm, .int ga, .int fi, .int se, .int ex, .long ha])), (aS, .inl (cI, 96, .inl (fAdds S cn w x)))]) hP hD [0, 1] [2] rfl rfl (by decide) (by decide) hk_ hFc hP1 hD1
    clear hP1 hD1 hPc hDc hFc hk_ hz_ hvm_ ht_
    generalize H1 = H at hP hS ⊢
    replace hP : va_P (dC, dI) vwCl [(o, .inr (4, [.int (nI 0), .ref aS, .ref aA, .ref aV, .int (nI (svN n)), .ref aB, .int ln, .int at_, .int wl, .ref aR, .int rm, .int ga, .int fi, .int se, .int ex, .long ha])), (aS, .inl (cI, 96, .inl (fAdds S cn w x))), (aV, .inl (cI, 576, .inl (svV S V n)))] H := hP.sub [1, 2, 0] rfl
    replace hD : va_D A [(o, .inr (4, [.int (nI 0), .ref aS, .ref aA, .ref aV, .int (nI (svN n)), .ref aB, .int ln, .int at_, .int wl, .ref aR, .int rm, .int ga, .int fi, .int se, .int ex, .long ha])), (aS, .inl (cI, 96, .inl (fAdds S cn w x))), (aV, .inl (cI, 576, .inl (svV S V n)))] := hD.sub [1, 2, 0] (by decide) rfl
    refine W.widen (k := 0) (n := 0) (Nat.le_refl 0) (Nat.le_refl 0) ?_
    have hw_ : r_29 = (nI cn) := hw_
    subst hw_
    have ec_r32_1_o_0 : (nI 0) = (nI (cdAdd S cn w x)) := by first | rfl | (first | (simp [c_13] <;> rfl))
    have ec_r32_1_o_4 : (nI (svN n)) = (nI (if cdAdd S cn w x = 0 then svN n else n)) := by first | rfl | (first | (simp [c_13] <;> rfl))
    have ec_r32_1_aS : fAdds S cn w x = if cdAdd S cn w x = 0 then fAdds S cn w x else S := by first | rfl | (first | (simp [c_13] <;> rfl))
    have ec_r32_1_aV : svV S V n = if cdAdd S cn w x = 0 then svV S V n else V := by first | rfl | (first | (simp [c_13] <;> rfl))
    have ew_r32_1 : ([(o, .inr (4, [.int (nI 0), .ref aS, .ref aA, .ref aV, .int (nI (svN n)), .ref aB, .int ln, .int at_, .int wl, .ref aR, .int rm, .int ga, .int fi, .int se, .int ex, .long ha])), (aS, .inl (cI, 96, .inl (fAdds S cn w x))), (aV, .inl (cI, 576, .inl (svV S V n)))] : va_W) = [(o, .inr (4, [.int (nI (cdAdd S cn w x)), .ref aS, .ref aA, .ref aV, .int (nI (if cdAdd S cn w x = 0 then svN n else n)), .ref aB, .int ln, .int at_, .int wl, .ref aR, .int rm, .int ga, .int fi, .int se, .int ex, .long ha])), (aS, .inl (cI, 96, .inl (if cdAdd S cn w x = 0 then fAdds S cn w x else S))), (aV, .inl (cI, 576, .inl (if cdAdd S cn w x = 0 then svV S V n else V)))] := ((((congrArg (fun z_ => ([(o, .inr (4, [.int z_, .ref aS, .ref aA, .ref aV, .int (nI (svN n)), .ref aB, .int ln, .int at_, .int wl, .ref aR, .int rm, .int ga, .int fi, .int se, .int ex, .long ha])), (aS, .inl (cI, 96, .inl (fAdds S cn w x))), (aV, .inl (cI, 576, .inl (svV S V n)))] : va_W)) ec_r32_1_o_0).trans (congrArg (fun z_ => ([(o, .inr (4, [.int (nI (cdAdd S cn w x)), .ref aS, .ref aA, .ref aV, .int z_, .ref aB, .int ln, .int at_, .int wl, .ref aR, .int rm, .int ga, .int fi, .int se, .int ex, .long ha])), (aS, .inl (cI, 96, .inl (fAdds S cn w x))), (aV, .inl (cI, 576, .inl (svV S V n)))] : va_W)) ec_r32_1_o_4)).trans (congrArg (fun z_ => ([(o, .inr (4, [.int (nI (cdAdd S cn w x)), .ref aS, .ref aA, .ref aV, .int (nI (if cdAdd S cn w x = 0 then svN n else n)), .ref aB, .int ln, .int at_, .int wl, .ref aR, .int rm, .int ga, .int fi, .int se, .int ex, .long ha])), (aS, .inl (cI, 96, .inl z_)), (aV, .inl (cI, 576, .inl (svV S V n)))] : va_W)) ec_r32_1_aS)).trans (congrArg (fun z_ => ([(o, .inr (4, [.int (nI (cdAdd S cn w x)), .ref aS, .ref aA, .ref aV, .int (nI (if cdAdd S cn w x = 0 then svN n else n)), .ref aB, .int ln, .int at_, .int wl, .ref aR, .int rm, .int ga, .int fi, .int se, .int ex, .long ha])), (aS, .inl (cI, 96, .inl (if cdAdd S cn w x = 0 then fAdds S cn w x else S))), (aV, .inl (cI, 576, .inl z_))] : va_W)) ec_r32_1_aV))
    have hP9 := (w_cgP ew_r32_1 hP)
    have hD9 := (w_cgD ew_r32_1 hD)
    exact W.iret (v := (nI cn)) hx hb hr (fun t ht hW => ⟨⟨(nI cn), (), rfl, (show (nI cn) = (if cdAdd S cn w x = 0 then nI cn else 0) from by first | rfl | (first | (simp [c_13] <;> rfl))), by rw [ht]; exact hP9, va_K.moved hW.alike hK, hD9⟩, hS.F ht⟩) hS.2.2 dX6_addRecord_32
  · refine lv_aload_n hx hb dX6_addRecord_16 rfl (lv_at hl 1 rfl) ?_
    refine lv_iload_n hx hb dX6_addRecord_17 rfl (lv_at hl 0 rfl) ?_
    have hPc := hP.sub (ws' := [(o, .inr (4, [.int (nI 0), .ref aS, .ref aA, .ref aV, .int (nI n), .ref aB, .int ln, .int at_, .int wl, .ref aR, .int rm, .int ga, .int fi, .int se, .int ex, .long ha]))]) [0] rfl
    have hDc := hD.sub (ws' := [(o, .inr (4, [.int (nI 0), .ref aS, .ref aA, .ref aV, .int (nI n), .ref aB, .int ln, .int at_, .int wl, .ref aR, .int rm, .int ga, .int fi, .int se, .int ex, .long ha]))]) [0] (by decide) rfl
    have hFc := va_free (wc := [(o, .inr (4, [.int (nI 0), .ref aS, .ref aA, .ref aV, .int (nI n), .ref aB, .int ln, .int at_, .int wl, .ref aR, .int rm, .int ga, .int fi, .int se, .int ex, .long ha]))]) hD hS hA [0] rfl
    refine va_calli (va_runV (As := [.int (nI (cdAdd S cn w x))]) (rest := []) ⟨hx, hb, hml, hown, hts⟩ (kX6_fails l dC dI cI cV cW H.size o 0 aS aA aV (nI n) aB ln at_ wl aR rm ga fi se ex ha (nI (cdAdd S cn w x))) (cwV 1 hts gX6_addRecord_X6_fails rfl rfl rfl hdX6_fails ⟨Nat.le_of_ble_eq_true rfl, Nat.le_of_ble_eq_true rfl⟩) (pW_V hK hP hPc hDc 0 4 rfl rfl rfl) rfl rfl hl.1 rfl (lv_room (Nat.le_of_ble_eq_true rfl)) dX6_addRecord_18 ⟨Nat.zero_le _, Nat.zero_le _⟩) hS (fun q _ h => hFc q h) hFc (fun r_18 u_ t_ H1 locs ht_ hvm_ hw_ hB_ hz_ hk_ hS => ?_)
    obtain ⟨hP1, -, hD1⟩ := hB_
    rw [ht_] at hP1
    obtain ⟨hP, hD⟩ := va_join (wr := [(aS, .inl (cI, 96, .inl S)), (aV, .inl (cI, 576, .inl V))]) (w1 := [(o, .inr (4, [.int (nI (cdAdd S cn w x)), .ref aS, .ref aA, .ref aV, .int (nI n), .ref aB, .int ln, .int at_, .int wl, .ref aR, .int rm, .int ga, .int fi, .int se, .int ex, .long ha]))]) hP hD [0] [1, 2] rfl rfl (by decide) (by decide) hk_ hFc hP1 hD1
    clear hP1 hD1 hPc hDc hFc hk_ hz_ hvm_ ht_
    generalize H1 = H at hP hS ⊢
    replace hP : va_P (dC, dI) vwCl [(o, .inr (4, [.int (nI (cdAdd S cn w x)), .ref aS, .ref aA, .ref aV, .int (nI n), .ref aB, .int ln, .int at_, .int wl, .ref aR, .int rm, .int ga, .int fi, .int se, .int ex, .long ha])), (aS, .inl (cI, 96, .inl S)), (aV, .inl (cI, 576, .inl V))] H := hP.sub [2, 0, 1] rfl
    replace hD : va_D A [(o, .inr (4, [.int (nI (cdAdd S cn w x)), .ref aS, .ref aA, .ref aV, .int (nI n), .ref aB, .int ln, .int at_, .int wl, .ref aR, .int rm, .int ga, .int fi, .int se, .int ex, .long ha])), (aS, .inl (cI, 96, .inl S)), (aV, .inl (cI, 576, .inl V))] := hD.sub [2, 0, 1] (by decide) rfl
    refine W.widen (k := 0) (n := 0) (Nat.le_refl 0) (Nat.le_refl 0) ?_
    have hw_ : r_18 = (nI 0) := hw_
    subst hw_
    have ec_r21_2_o_4 : (nI n) = (nI (if cdAdd S cn w x = 0 then svN n else n)) := by first | rfl | (first | (simp [c_13] <;> rfl))
    have ec_r21_2_aS : S = if cdAdd S cn w x = 0 then fAdds S cn w x else S := by first | rfl | (first | (simp [c_13] <;> rfl))
    have ec_r21_2_aV : V = if cdAdd S cn w x = 0 then svV S V n else V := by first | rfl | (first | (simp [c_13] <;> rfl))
    have ew_r21_2 : ([(o, .inr (4, [.int (nI (cdAdd S cn w x)), .ref aS, .ref aA, .ref aV, .int (nI n), .ref aB, .int ln, .int at_, .int wl, .ref aR, .int rm, .int ga, .int fi, .int se, .int ex, .long ha])), (aS, .inl (cI, 96, .inl S)), (aV, .inl (cI, 576, .inl V))] : va_W) = [(o, .inr (4, [.int (nI (cdAdd S cn w x)), .ref aS, .ref aA, .ref aV, .int (nI (if cdAdd S cn w x = 0 then svN n else n)), .ref aB, .int ln, .int at_, .int wl, .ref aR, .int rm, .int ga, .int fi, .int se, .int ex, .long ha])), (aS, .inl (cI, 96, .inl (if cdAdd S cn w x = 0 then fAdds S cn w x else S))), (aV, .inl (cI, 576, .inl (if cdAdd S cn w x = 0 then svV S V n else V)))] := (((congrArg (fun z_ => ([(o, .inr (4, [.int (nI (cdAdd S cn w x)), .ref aS, .ref aA, .ref aV, .int z_, .ref aB, .int ln, .int at_, .int wl, .ref aR, .int rm, .int ga, .int fi, .int se, .int ex, .long ha])), (aS, .inl (cI, 96, .inl S)), (aV, .inl (cI, 576, .inl V))] : va_W)) ec_r21_2_o_4).trans (congrArg (fun z_ => ([(o, .inr (4, [.int (nI (cdAdd S cn w x)), .ref aS, .ref aA, .ref aV, .int (nI (if cdAdd S cn w x = 0 then svN n else n)), .ref aB, .int ln, .int at_, .int wl, .ref aR, .int rm, .int ga, .int fi, .int se, .int ex, .long ha])), (aS, .inl (cI, 96, .inl z_)), (aV, .inl (cI, 576, .inl V))] : va_W)) ec_r21_2_aS)).trans (congrArg (fun z_ => ([(o, .inr (4, [.int (nI (cdAdd S cn w x)), .ref aS, .ref aA, .ref aV, .int (nI (if cdAdd S cn w x = 0 then svN n else n)), .ref aB, .int ln, .int at_, .int wl, .ref aR, .int rm, .int ga, .int fi, .int se, .int ex, .long ha])), (aS, .inl (cI, 96, .inl (if cdAdd S cn w x = 0 then fAdds S cn w x else S))), (aV, .inl (cI, 576, .inl z_))] : va_W)) ec_r21_2_aV))
    have hP9 := (w_cgP ew_r21_2 hP)
    have hD9 := (w_cgD ew_r21_2 hD)
    exact W.iret (v := (nI 0)) hx hb hr (fun t ht hW => ⟨⟨(nI 0), (), rfl, (show (nI 0) = (if cdAdd S cn w x = 0 then nI cn else 0) from by first | rfl | (first | (simp [c_13] <;> rfl))), by rw [ht]; exact hP9, va_K.moved hW.alike hK, hD9⟩, hS.F ht⟩) hS.2.2 dX6_addRecord_21
theorem hdX6_walk : yX6_walk.cls = RX6 ∧ yX6_walk.cls ≠ "java/lang/invoke/MethodHandle" ∧ yX6_walk.cls ≠ "java/lang/invoke/VarHandle" ∧ (parseMethodDescriptor yX6_walk.desc).map (fun d => d.parameters.length) = some 1 := by decide +kernel
set_option maxHeartbeats 4000000 in
set_option maxRecDepth 100000 in
theorem kX6_calls (l : Launch) (dC : Nat → ClassId) (dI : Nat → Nat → Nat) (cI cV cW : ClassId) (sz : Nat) (o : Nat) (th : Int32) (aS : Nat) (aA : Nat) (aV : Nat) (sm : Int32) (aB : Nat) (ln : Int32) (at_ : Int32) (wl : Int32) (aR : Nat) (rm : Int32) (ga : Int32) (fi : Int32) (se : Int32) (ex : Int32) (ha : Int64) (S : Nat → Int32) (cn : Nat) (r : Nat) (hR : RO S cn) (hr_0 : r < cn) : Met l yX6_calls wsX6_calls ({ frames := 3, cells := 0, slots := 0, locals := 67 }) (pW (dC, dI) (tyS cI cV cW) sz [.ref o, .int (nI r)] [(o, .inr (4, [.int th, .ref aS, .ref aA, .ref aV, .int sm, .ref aB, .int ln, .int at_, .int wl, .ref aR, .int rm, .int ga, .int fi, .int se, .int ex, .long ha])), (aS, .inl (cI, 96, .inl S))]) (va_Qi (fun (r_ : Int32) (_ : Unit) => r_ = (sWalk (gQ S) (gW S 1) (gW S 2) r)) (fun (_ : Unit) t => qB (dC, dI) (tyS cI cV cW) (va_A [(o, .inr (4, [.int th, .ref aS, .ref aA, .ref aV, .int sm, .ref aB, .int ln, .int at_, .int wl, .ref aR, .int rm, .int ga, .int fi, .int se, .int ex, .long ha])), (aS, .inl (cI, 96, .inl S))] sz) [(o, .inr (4, [.int th, .ref aS, .ref aA, .ref aV, .int sm, .ref aB, .int ln, .int at_, .int wl, .ref aR, .int rm, .int ga, .int fi, .int se, .int ex, .long ha])), (aS, .inl (cI, 96, .inl (fCalls S r)))] t) (va_A [(o, .inr (4, [.int th, .ref aS, .ref aA, .ref aV, .int sm, .ref aB, .int ln, .int at_, .int wl, .ref aR, .int rm, .int ga, .int fi, .int se, .int ex, .long ha])), (aS, .inl (cI, 96, .inl S))] sz)) 0 0 (va_A [(o, .inr (4, [.int th, .ref aS, .ref aA, .ref aV, .int sm, .ref aB, .int ln, .int at_, .int wl, .ref aR, .int rm, .int ga, .int fi, .int se, .int ex, .long ha])), (aS, .inl (cI, 96, .inl S))] sz) := by
  refine Met.ofW (cc := cX6_calls) (maxL := 3) (ret := (some .int)) (by decide) rfl ?_
  intro p e s m args below meth c s₁ B hml hv
  obtain ⟨rfl, hsz, hP, hK, hD0⟩ := hv
  have hx := B.exec
  have hb := B.bytes
  have hr := B.returns
  have hts := atoms_spec (ws := wsX6_calls) B.pre
  have hown : s.vm.findClass RX6 = some m.cls := findClass_of_methodNamed B.named
  have hlocks := B.notSynchronized
  subst hsz
  have hD := hD0.self (sz := s.heap.size)
  generalize hAe : va_A [(o, .inr (4, [.int th, .ref aS, .ref aA, .ref aV, .int sm, .ref aB, .int ln, .int at_, .int wl, .ref aR, .int rm, .int ga, .int fi, .int se, .int ex, .long ha])), (aS, .inl (cI, 96, .inl S))] s.heap.size = A at hD ⊢
  have hA : ∀ q : Nat, s.heap.size ≤ q → A q := fun q h => by rw [← hAe]; exact Or.inr h
  have hS : va_S A s.heap s.heap [] := va_S.rf
  refine w_gen hP hS (fun H locs hP hS => ?_)
  have hf7 := hts (.fieldLink RX6 7 "VaultShelvesModel" "s" "[I") (by decide +kernel)
  have hiX6 : ∀ w ∈ u_ws RX6 TX6 16, w ∈ wsX6_calls := by decide +kernel
  have hl := lv_entry ([.ref o, .int (nI r)]) (n := 3) (Nat.le_of_ble_eq_true rfl)
  rw [lg_entry_eq]
  generalize (lg_sl ([.ref o, .int (nI r)]) ++ List.replicate (3 - (lg_sl ([.ref o, .int (nI r)])).length) Slot.unset).toArray = ls at hl ⊢
  replace hl : lv_has ls 3 [(0, .ref o), (1, .int (nI r))] := hl
  have hc := hR.2.1
  refine lv_aload_n hx hb dX6_calls_0 rfl (lv_at hl 0 rfl) ?_
  refine lv_iload_n hx hb dX6_calls_1 rfl (lv_at hl 1 rfl) ?_
  refine vp_callSi (W.runV (As := [.int (nI r)]) (rest := []) ⟨hx, hb, hml, hown, hts⟩ (kX6_walk l dC dI cI cV cW o th aS aA aV sm aB ln at_ wl aR rm ga fi se ex ha S cn r (hR) (hr_0)) (cwV 1 hts gX6_calls_X6_walk rfl rfl rfl hdX6_walk ⟨Nat.le_of_ble_eq_true rfl, Nat.le_of_ble_eq_true rfl⟩) (pR_V hK hP 0 4 rfl rfl rfl [0, 1] rfl) rfl rfl hl.1 rfl (lv_room (Nat.le_of_ble_eq_true rfl)) dX6_calls_2 ⟨Nat.zero_le _, Nat.zero_le _⟩) (fun r_2 hr_ => ?_)
  subst hr_
  refine lv_istore_n (lv' := [(2, .int (sWalk (gQ S) (gW S 1) (gW S 2) r)), (0, .ref o), (1, .int (nI r))]) hx hb dX6_calls_5 rfl hl (by decide) rfl (fun ls hl => ?_)
  refine lv_aload_n hx hb dX6_calls_6 rfl (lv_at hl 1 rfl) ?_
  refine lv_iload_n hx hb dX6_calls_7 rfl (lv_at hl 2 rfl) ?_
  refine lv_iconst (v := (nI 3)) hx hb dX6_calls_8 (by decide) ?_
  refine lv_aload_n hx hb dX6_calls_9 rfl (lv_at hl 1 rfl) ?_
  refine lv_iload_n hx hb dX6_calls_10 rfl (lv_at hl 2 rfl) ?_
  refine lv_iconst (v := (nI 3)) hx hb dX6_calls_11 (by decide) ?_
  refine vp_callSi (W.runV (As := [.int (nI r), .int (nI 3)]) (rest := [.int (nI 3), .int (nI r), .ref o]) ⟨hx, hb, hml, hown, hts⟩ (kX6_of l dC dI cI cV cW o th aS aA aV sm aB ln at_ wl aR rm ga fi se ex ha S r 3 (by omega) (by omega)) (cwV 2 hts gX6_calls_X6_of rfl rfl rfl hdX6_of ⟨Nat.le_of_ble_eq_true rfl, Nat.le_of_ble_eq_true rfl⟩) (pR_V hK hP 0 4 rfl rfl rfl [0, 1] rfl) rfl rfl hl.1 rfl (lv_room (Nat.le_of_ble_eq_true rfl)) dX6_calls_12 ⟨Nat.zero_le _, Nat.zero_le _⟩) (fun r_12 hr_ => ?_)
  subst hr_
  refine lv_iconst (v := (nI 1)) hx hb dX6_calls_15 (by decide) ?_
  refine lv_iadd hx hb dX6_calls_16 ?_
  have hPc := hP.sub (ws' := [(o, .inr (4, [.int th, .ref aS, .ref aA, .ref aV, .int sm, .ref aB, .int ln, .int at_, .int wl, .ref aR, .int rm, .int ga, .int fi, .int se, .int ex, .long ha])), (aS, .inl (cI, 96, .inl S))]) [0, 1] rfl
  have hDc := hD.sub (ws' := [(o, .inr (4, [.int th, .ref aS, .ref aA, .ref aV, .int sm, .ref aB, .int ln, .int at_, .int wl, .ref aR, .int rm, .int ga, .int fi, .int se, .int ex, .long ha])), (aS, .inl (cI, 96, .inl S))]) [0, 1] (by decide) rfl
  have hFc := va_free (wc := [(o, .inr (4, [.int th, .ref aS, .ref aA, .ref aV, .int sm, .ref aB, .int ln, .int at_, .int wl, .ref aR, .int rm, .int ga, .int fi, .int se, .int ex, .long ha])), (aS, .inl (cI, 96, .inl S))]) hD hS hA [0, 1] rfl
  refine va_callv (va_runV (As := [.int (nI r), .int (nI 3), .int ((gW S 3 r) + 1)]) (rest := []) ⟨hx, hb, hml, hown, hts⟩ (kX6_lay l dC dI cI cV cW H.size o th aS aA aV sm aB ln at_ wl aR rm ga fi se ex ha S r 3 ((gW S 3 r) + 1) (by omega) (by omega)) (cwV 3 hts gX6_calls_X6_lay rfl rfl rfl hdX6_lay ⟨Nat.le_of_ble_eq_true rfl, Nat.le_of_ble_eq_true rfl⟩) (pW_V hK hP hPc hDc 0 4 rfl rfl rfl) rfl rfl hl.1 rfl (lv_room (Nat.le_of_ble_eq_true rfl)) dX6_calls_17 ⟨Nat.zero_le _, Nat.zero_le _⟩) hS (fun q _ h => hFc q h) hFc (fun u_ t_ H1 locs ht_ hvm_ hw_ hB_ hz_ hk_ hS => ?_)
  obtain ⟨hP1, -, hD1⟩ := hB_
  rw [ht_] at hP1
  obtain ⟨hP, hD⟩ := va_join (wr := []) (w1 := [(o, .inr (4, [.int th, .ref aS, .ref aA, .ref aV, .int sm, .ref aB, .int ln, .int at_, .int wl, .ref aR, .int rm, .int ga, .int fi, .int se, .int ex, .long ha])), (aS, .inl (cI, 96, .inl (upd S (15 + (5 * r) + 3) ((gW S 3 r) + 1))))]) hP hD [0, 1] [] rfl rfl (by decide) (by decide) hk_ hFc hP1 hD1
  clear hP1 hD1 hPc hDc hFc hk_ hz_ hvm_ ht_
  generalize H1 = H at hP hS ⊢
  replace hP : va_P (dC, dI) vwCl [(o, .inr (4, [.int th, .ref aS, .ref aA, .ref aV, .int sm, .ref aB, .int ln, .int at_, .int wl, .ref aR, .int rm, .int ga, .int fi, .int se, .int ex, .long ha])), (aS, .inl (cI, 96, .inl (upd S (15 + (5 * r) + 3) ((gW S 3 r) + 1))))] H := hP
  replace hD : va_D A [(o, .inr (4, [.int th, .ref aS, .ref aA, .ref aV, .int sm, .ref aB, .int ln, .int at_, .int wl, .ref aR, .int rm, .int ga, .int fi, .int se, .int ex, .long ha])), (aS, .inl (cI, 96, .inl (upd S (15 + (5 * r) + 3) ((gW S 3 r) + 1))))] := hD
  refine W.widen (k := 0) (n := 0) (Nat.le_refl 0) (Nat.le_refl 0) ?_
  refine lv_aload_n hx hb dX6_calls_20 rfl (lv_at hl 1 rfl) ?_
  refine lv_iload_n hx hb dX6_calls_21 rfl (lv_at hl 2 rfl) ?_
  refine lv_iconst (v := (nI 2)) hx hb dX6_calls_22 (by decide) ?_
  refine lv_aload_n hx hb dX6_calls_23 rfl (lv_at hl 1 rfl) ?_
  refine lv_iload_n hx hb dX6_calls_24 rfl (lv_at hl 2 rfl) ?_
  refine lv_iconst (v := (nI 1)) hx hb dX6_calls_25 (by decide) ?_
  refine vp_callSi (W.runV (As := [.int (nI r), .int (nI 1)]) (rest := [.int (nI 2), .int (nI r), .ref o]) ⟨hx, hb, hml, hown, hts⟩ (kX6_of l dC dI cI cV cW o th aS aA aV sm aB ln at_ wl aR rm ga fi se ex ha (upd S (15 + (5 * r) + 3) ((gW S 3 r) + 1)) r 1 (by omega) (by omega)) (cwV 2 hts gX6_calls_X6_of rfl rfl rfl hdX6_of ⟨Nat.le_of_ble_eq_true rfl, Nat.le_of_ble_eq_true rfl⟩) (pR_V hK hP 0 4 rfl rfl rfl [0, 1] rfl) rfl rfl hl.1 rfl (lv_room (Nat.le_of_ble_eq_true rfl)) dX6_calls_26 ⟨Nat.zero_le _, Nat.zero_le _⟩) (fun r_26 hr_ => ?_)
  subst hr_
  refine lv_cgi (show (gW (upd S (15 + (5 * r) + 3) ((gW S 3 r) + 1)) 1 r) = (gW S 1 r) from gW_ne (by omega)) ?_
  have hPc := hP.sub (ws' := [(o, .inr (4, [.int th, .ref aS, .ref aA, .ref aV, .int sm, .ref aB, .int ln, .int at_, .int wl, .ref aR, .int rm, .int ga, .int fi, .int se, .int ex, .long ha])), (aS, .inl (cI, 96, .inl (upd S (15 + (5 * r) + 3) ((gW S 3 r) + 1))))]) [0, 1] rfl
  have hDc := hD.sub (ws' := [(o, .inr (4, [.int th, .ref aS, .ref aA, .ref aV, .int sm, .ref aB, .int ln, .int at_, .int wl, .ref aR, .int rm, .int ga, .int fi, .int se, .int ex, .long ha])), (aS, .inl (cI, 96, .inl (upd S (15 + (5 * r) + 3) ((gW S 3 r) + 1))))]) [0, 1] (by decide) rfl
  have hFc := va_free (wc := [(o, .inr (4, [.int th, .ref aS, .ref aA, .ref aV, .int sm, .ref aB, .int ln, .int at_, .int wl, .ref aR, .int rm, .int ga, .int fi, .int se, .int ex, .long ha])), (aS, .inl (cI, 96, .inl (upd S (15 + (5 * r) + 3) ((gW S 3 r) + 1))))]) hD hS hA [0, 1] rfl
  refine va_callv (va_runV (As := [.int (nI r), .int (nI 2), .int (gW S 1 r)]) (rest := []) ⟨hx, hb, hml, hown, hts⟩ (kX6_lay l dC dI cI cV cW H.size o th aS aA aV sm aB ln at_ wl aR rm ga fi se ex ha (upd S (15 + (5 * r) + 3) ((gW S 3 r) + 1)) r 2 (gW S 1 r) (by omega) (by omega)) (cwV 3 hts gX6_calls_X6_lay rfl rfl rfl hdX6_lay ⟨Nat.le_of_ble_eq_true rfl, Nat.le_of_ble_eq_true rfl⟩) (pW_V hK hP hPc hDc 0 4 rfl rfl rfl) rfl rfl hl.1 rfl (lv_room (Nat.le_of_ble_eq_true rfl)) dX6_calls_29 ⟨Nat.zero_le _, Nat.zero_le _⟩) hS (fun q _ h => hFc q h) hFc (fun u_ t_ H1 locs ht_ hvm_ hw_ hB_ hz_ hk_ hS => ?_)
  obtain ⟨hP1, -, hD1⟩ := hB_
  rw [ht_] at hP1
  obtain ⟨hP, hD⟩ := va_join (wr := []) (w1 := [(o, .inr (4, [.int th, .ref aS, .ref aA, .ref aV, .int sm, .ref aB, .int ln, .int at_, .int wl, .ref aR, .int rm, .int ga, .int fi, .int se, .int ex, .long ha])), (aS, .inl (cI, 96, .inl (upd (upd S (15 + (5 * r) + 3) ((gW S 3 r) + 1)) (15 + (5 * r) + 2) (gW S 1 r))))]) hP hD [0, 1] [] rfl rfl (by decide) (by decide) hk_ hFc hP1 hD1
  clear hP1 hD1 hPc hDc hFc hk_ hz_ hvm_ ht_
  generalize H1 = H at hP hS ⊢
  replace hP : va_P (dC, dI) vwCl [(o, .inr (4, [.int th, .ref aS, .ref aA, .ref aV, .int sm, .ref aB, .int ln, .int at_, .int wl, .ref aR, .int rm, .int ga, .int fi, .int se, .int ex, .long ha])), (aS, .inl (cI, 96, .inl (upd (upd S (15 + (5 * r) + 3) ((gW S 3 r) + 1)) (15 + (5 * r) + 2) (gW S 1 r))))] H := hP
  replace hD : va_D A [(o, .inr (4, [.int th, .ref aS, .ref aA, .ref aV, .int sm, .ref aB, .int ln, .int at_, .int wl, .ref aR, .int rm, .int ga, .int fi, .int se, .int ex, .long ha])), (aS, .inl (cI, 96, .inl (upd (upd S (15 + (5 * r) + 3) ((gW S 3 r) + 1)) (15 + (5 * r) + 2) (gW S 1 r))))] := hD
  refine W.widen (k := 0) (n := 0) (Nat.le_refl 0) (Nat.le_refl 0) ?_
  refine lv_aload_n hx hb dX6_calls_32 rfl (lv_at hl 1 rfl) ?_
  refine va_get (D := (dC, dI)) (ci := 4) (v := .ref aS) (C := RX6) (T := TX6) (N := 16) hx hb hts hiX6 hown hK hP 0 rfl rfl 1 (by decide) hf7 (fun _ h9 => h9) rfl dX6_calls_33 ?_
  refine lv_iconst (v := (nI 1)) hx hb dX6_calls_36 (by decide) ?_
  refine lv_dup2_11 hx hb dX6_calls_37 rfl rfl ?_
  refine n_iald hx hb hK hP 1 0 rfl rfl (show 1 < 96 from by omega) (by decide) dX6_calls_38 ?_
  refine lv_cgi (show ((upd (upd S (15 + (5 * r) + 3) ((gW S 3 r) + 1)) (15 + (5 * r) + 2) (gW S 1 r)) 1) = (S 1) from (by rw [pk_un (by omega), pk_un (by omega)])) ?_
  refine lv_iload_n hx hb dX6_calls_39 rfl (lv_at hl 0 rfl) ?_
  refine lv_iadd hx hb dX6_calls_40 ?_
  refine n_iast hx hb hK hP hD hS 1 0 rfl rfl (show 1 < 96 from by omega) (by decide) dX6_calls_41 (fun H locs hP hD hS => ?_)
  replace hP : va_P (dC, dI) vwCl [(o, .inr (4, [.int th, .ref aS, .ref aA, .ref aV, .int sm, .ref aB, .int ln, .int at_, .int wl, .ref aR, .int rm, .int ga, .int fi, .int se, .int ex, .long ha])), (aS, .inl (cI, 96, .inl (upd (upd (upd S (15 + (5 * r) + 3) ((gW S 3 r) + 1)) (15 + (5 * r) + 2) (gW S 1 r)) 1 ((S 1) + (sWalk (gQ S) (gW S 1) (gW S 2) r)))))] H := hP
  replace hD : va_D A [(o, .inr (4, [.int th, .ref aS, .ref aA, .ref aV, .int sm, .ref aB, .int ln, .int at_, .int wl, .ref aR, .int rm, .int ga, .int fi, .int se, .int ex, .long ha])), (aS, .inl (cI, 96, .inl (upd (upd (upd S (15 + (5 * r) + 3) ((gW S 3 r) + 1)) (15 + (5 * r) + 2) (gW S 1 r)) 1 ((S 1) + (sWalk (gQ S) (gW S 1) (gW S 2) r)))))] := hD
  refine lv_iload_n hx hb dX6_calls_42 rfl (lv_at hl 0 rfl) ?_
  have ec_r43_1_aS : upd (upd (upd S (15 + (5 * r) + 3) ((gW S 3 r) + 1)) (15 + (5 * r) + 2) (gW S 1 r)) 1 ((S 1) + (sWalk (gQ S) (gW S 1) (gW S 2) r)) = fCalls S r := by first | rfl | (rfl)
  have ew_r43_1 : ([(o, .inr (4, [.int th, .ref aS, .ref aA, .ref aV, .int sm, .ref aB, .int ln, .int at_, .int wl, .ref aR, .int rm, .int ga, .int fi, .int se, .int ex, .long ha])), (aS, .inl (cI, 96, .inl (upd (upd (upd S (15 + (5 * r) + 3) ((gW S 3 r) + 1)) (15 + (5 * r) + 2) (gW S 1 r)) 1 ((S 1) + (sWalk (gQ S) (gW S 1) (gW S 2) r)))))] : va_W) = [(o, .inr (4, [.int th, .ref aS, .ref aA, .ref aV, .int sm, .ref aB, .int ln, .int at_, .int wl, .ref aR, .int rm, .int ga, .int fi, .int se, .int ex, .long ha])), (aS, .inl (cI, 96, .inl (fCalls S r)))] := (congrArg (fun z_ => ([(o, .inr (4, [.int th, .ref aS, .ref aA, .ref aV, .int sm, .ref aB, .int ln, .int at_, .int wl, .ref aR, .int rm, .int ga, .int fi, .int se, .int ex, .long ha])), (aS, .inl (cI, 96, .inl z_))] : va_W)) ec_r43_1_aS)
  have hP9 := (w_cgP ew_r43_1 hP)
  have hD9 := (w_cgD ew_r43_1 hD)
  exact W.iret (v := (sWalk (gQ S) (gW S 1) (gW S 2) r)) hx hb hr (fun t ht hW => ⟨⟨(sWalk (gQ S) (gW S 1) (gW S 2) r), (), rfl, rfl, by rw [ht]; exact hP9, va_K.moved hW.alike hK, hD9⟩, hS.F ht⟩) hS.2.2 dX6_calls_43
theorem hdX6_isRecord : yX6_isRecord.cls = RX6 ∧ yX6_isRecord.cls ≠ "java/lang/invoke/MethodHandle" ∧ yX6_isRecord.cls ≠ "java/lang/invoke/VarHandle" ∧ (parseMethodDescriptor yX6_isRecord.desc).map (fun d => d.parameters.length) = some 1 := by decide +kernel
theorem hdX6_calls : yX6_calls.cls = RX6 ∧ yX6_calls.cls ≠ "java/lang/invoke/MethodHandle" ∧ yX6_calls.cls ≠ "java/lang/invoke/VarHandle" ∧ (parseMethodDescriptor yX6_calls.desc).map (fun d => d.parameters.length) = some 1 := by decide +kernel
set_option maxHeartbeats 4000000 in
set_option maxRecDepth 100000 in
theorem kX6_call (l : Launch) (dC : Nat → ClassId) (dI : Nat → Nat → Nat) (cI cV cW : ClassId) (sz : Nat) (o : Nat) (th : Int32) (aS : Nat) (aA : Nat) (aV : Nat) (aB : Nat) (ln : Int32) (at_ : Int32) (wl : Int32) (aR : Nat) (rm : Int32) (ga : Int32) (fi : Int32) (se : Int32) (ex : Int32) (ha : Int64) (S : Nat → Int32) (cn : Nat) (V : Nat → Int32) (n : Nat) (x : Int32) (hR : RO S cn) (hn : n ≤ 6) : Met l yX6_call wsX6_call ({ frames := 4, cells := 0, slots := 0, locals := 89 }) (pW (dC, dI) (tyS cI cV cW) sz [.ref o, .int x] [(o, .inr (4, [.int th, .ref aS, .ref aA, .ref aV, .int (nI n), .ref aB, .int ln, .int at_, .int wl, .ref aR, .int rm, .int ga, .int fi, .int se, .int ex, .long ha])), (aS, .inl (cI, 96, .inl S)), (aV, .inl (cI, 576, .inl V))]) (va_Qi (fun (r_ : Int32) (_ : Unit) => r_ = (if sIn x 0 (S 0 - 1) = true then sWalk (gQ S) (gW S 1) (gW S 2) (ix x) else 0)) (fun (_ : Unit) t => qB (dC, dI) (tyS cI cV cW) (va_A [(o, .inr (4, [.int th, .ref aS, .ref aA, .ref aV, .int (nI n), .ref aB, .int ln, .int at_, .int wl, .ref aR, .int rm, .int ga, .int fi, .int se, .int ex, .long ha])), (aS, .inl (cI, 96, .inl S)), (aV, .inl (cI, 576, .inl V))] sz) [(o, .inr (4, [.int (nI (if sIn x 0 (S 0 - 1) = true then 0 else 1)), .ref aS, .ref aA, .ref aV, .int (nI (if sIn x 0 (S 0 - 1) = true then svN n else n)), .ref aB, .int ln, .int at_, .int wl, .ref aR, .int rm, .int ga, .int fi, .int se, .int ex, .long ha])), (aS, .inl (cI, 96, .inl (if sIn x 0 (S 0 - 1) = true then fCalls S (ix x) else S))), (aV, .inl (cI, 576, .inl (if sIn x 0 (S 0 - 1) = true then svV S V n else V)))] t) (va_A [(o, .inr (4, [.int th, .ref aS, .ref aA, .ref aV, .int (nI n), .ref aB, .int ln, .int at_, .int wl, .ref aR, .int rm, .int ga, .int fi, .int se, .int ex, .long ha])), (aS, .inl (cI, 96, .inl S)), (aV, .inl (cI, 576, .inl V))] sz)) 0 0 (va_A [(o, .inr (4, [.int th, .ref aS, .ref aA, .ref aV, .int (nI n), .ref aB, .int ln, .int at_, .int wl, .ref aR, .int rm, .int ga, .int fi, .int se, .int ex, .long ha])), (aS, .inl (cI, 96, .inl S)), (aV, .inl (cI, 576, .inl V))] sz) := by
  refine Met.ofW (cc := cX6_call) (maxL := 2) (ret := (some .int)) (by decide) rfl ?_
  intro p e s m args below meth c s₁ B hml hv
  obtain ⟨rfl, hsz, hP, hK, hD0⟩ := hv
  have hx := B.exec
  have hb := B.bytes
  have hr := B.returns
  have hts := atoms_spec (ws := wsX6_call) B.pre
  have hown : s.vm.findClass RX6 = some m.cls := findClass_of_methodNamed B.named
  have hlocks := B.notSynchronized
  subst hsz
  have hD := hD0.self (sz := s.heap.size)
  generalize hAe : va_A [(o, .inr (4, [.int th, .ref aS, .ref aA, .ref aV, .int (nI n), .ref aB, .int ln, .int at_, .int wl, .ref aR, .int rm, .int ga, .int fi, .int se, .int ex, .long ha])), (aS, .inl (cI, 96, .inl S)), (aV, .inl (cI, 576, .inl V))] s.heap.size = A at hD ⊢
  have hA : ∀ q : Nat, s.heap.size ≤ q → A q := fun q h => by rw [← hAe]; exact Or.inr h
  have hS : va_S A s.heap s.heap [] := va_S.rf
  refine w_gen hP hS (fun H locs hP hS => ?_)
  have hf25 := hts (.fieldLink RX6 25 "VaultShelvesModel" "thrown" "I") (by decide +kernel)
  have hiX6 : ∀ w ∈ u_ws RX6 TX6 16, w ∈ wsX6_call := by decide +kernel
  have hl := lv_entry ([.ref o, .int x]) (n := 2) (Nat.le_of_ble_eq_true rfl)
  rw [lg_entry_eq]
  generalize (lg_sl ([.ref o, .int x]) ++ List.replicate (2 - (lg_sl ([.ref o, .int x])).length) Slot.unset).toArray = ls at hl ⊢
  replace hl : lv_has ls 2 [(0, .ref o), (1, .int x)] := hl
  have hc := hR.2.1
  refine lv_aload_n hx hb dX6_call_0 rfl (lv_at hl 0 rfl) ?_
  refine lv_iconst (v := (nI 0)) hx hb dX6_call_1 (by decide) ?_
  refine va_put (D := (dC, dI)) (ci := 4) (v := .int (nI 0)) (ty := .int) (C := RX6) (T := TX6) (N := 16) hx hb hts hiX6 tyX6 tyX6_ok nmX6 hown hK hP hD hS 0 rfl rfl 0 (by decide) hf25 (fun _ h9 => h9) rfl (by decide +kernel) rfl rfl (Nat.le_of_ble_eq_true rfl) dX6_call_2 (fun H locs hP hD hS => ?_)
  replace hP : va_P (dC, dI) vwCl [(o, .inr (4, [.int (nI 0), .ref aS, .ref aA, .ref aV, .int (nI n), .ref aB, .int ln, .int at_, .int wl, .ref aR, .int rm, .int ga, .int fi, .int se, .int ex, .long ha])), (aS, .inl (cI, 96, .inl S)), (aV, .inl (cI, 576, .inl V))] H := hP
  replace hD : va_D A [(o, .inr (4, [.int (nI 0), .ref aS, .ref aA, .ref aV, .int (nI n), .ref aB, .int ln, .int at_, .int wl, .ref aR, .int rm, .int ga, .int fi, .int se, .int ex, .long ha])), (aS, .inl (cI, 96, .inl S)), (aV, .inl (cI, 576, .inl V))] := hD
  refine lv_aload_n hx hb dX6_call_5 rfl (lv_at hl 0 rfl) ?_
  refine lv_iload_n hx hb dX6_call_6 rfl (lv_at hl 1 rfl) ?_
  refine vp_callSi (W.runV (As := [.int x]) (rest := []) ⟨hx, hb, hml, hown, hts⟩ (kX6_isRecord l dC dI cI cV cW o 0 aS aA aV (nI n) aB ln at_ wl aR rm ga fi se ex ha S x) (cwV 1 hts gX6_call_X6_isRecord rfl rfl rfl hdX6_isRecord ⟨Nat.le_of_ble_eq_true rfl, Nat.le_of_ble_eq_true rfl⟩) (pR_V hK hP 0 4 rfl rfl rfl [0, 1] rfl) rfl rfl hl.1 rfl (lv_room (Nat.le_of_ble_eq_true rfl)) dX6_call_7 ⟨Nat.zero_le _, Nat.zero_le _⟩) (fun r_7 hr_ => ?_)
  subst hr_
  refine b_if_ne (tgt := 19) hx hb dX6_call_10 (by decide) (fun c_10 => ?_) (fun c_10 => ?_)
  · obtain ⟨r, hr_0, rfl⟩ := rc_of2 hR c_10
    refine lv_aload_n hx hb dX6_call_19 rfl (lv_at hl 0 rfl) ?_
    have hPc := hP.sub (ws' := [(o, .inr (4, [.int (nI 0), .ref aS, .ref aA, .ref aV, .int (nI n), .ref aB, .int ln, .int at_, .int wl, .ref aR, .int rm, .int ga, .int fi, .int se, .int ex, .long ha])), (aS, .inl (cI, 96, .inl S)), (aV, .inl (cI, 576, .inl V))]) [0, 1, 2] rfl
    have hDc := hD.sub (ws' := [(o, .inr (4, [.int (nI 0), .ref aS, .ref aA, .ref aV, .int (nI n), .ref aB, .int ln, .int at_, .int wl, .ref aR, .int rm, .int ga, .int fi, .int se, .int ex, .long ha])), (aS, .inl (cI, 96, .inl S)), (aV, .inl (cI, 576, .inl V))]) [0, 1, 2] (by decide) rfl
    have hFc := va_free (wc := [(o, .inr (4, [.int (nI 0), .ref aS, .ref aA, .ref aV, .int (nI n), .ref aB, .int ln, .int at_, .int wl, .ref aR, .int rm, .int ga, .int fi, .int se, .int ex, .long ha])), (aS, .inl (cI, 96, .inl S)), (aV, .inl (cI, 576, .inl V))]) hD hS hA [0, 1, 2] rfl
    refine va_callv (va_runV (As := []) (rest := []) ⟨hx, hb, hml, hown, hts⟩ (kX6_saves l dC dI cI cV cW H.size o 0 aS aA aV aB ln at_ wl aR rm ga fi se ex ha S V n (hn)) (cwV 0 hts gX6_call_X6_saves rfl rfl rfl hdX6_saves ⟨Nat.le_of_ble_eq_true rfl, Nat.le_of_ble_eq_true rfl⟩) (pW_V hK hP hPc hDc 0 4 rfl rfl rfl) rfl rfl hl.1 rfl (lv_room (Nat.le_of_ble_eq_true rfl)) dX6_call_20 ⟨Nat.zero_le _, Nat.zero_le _⟩) hS (fun q _ h => hFc q h) hFc (fun u_ t_ H1 locs ht_ hvm_ hw_ hB_ hz_ hk_ hS => ?_)
    obtain ⟨hP1, -, hD1⟩ := hB_
    rw [ht_] at hP1
    obtain ⟨hP, hD⟩ := va_join (wr := []) (w1 := [(o, .inr (4, [.int (nI 0), .ref aS, .ref aA, .ref aV, .int (nI (svN n)), .ref aB, .int ln, .int at_, .int wl, .ref aR, .int rm, .int ga, .int fi, .int se, .int ex, .long ha])), (aS, .inl (cI, 96, .inl S)), (aV, .inl (cI, 576, .inl (svV S V n)))]) hP hD [0, 1, 2] [] rfl rfl (by decide) (by decide) hk_ hFc hP1 hD1
    clear hP1 hD1 hPc hDc hFc hk_ hz_ hvm_ ht_
    generalize H1 = H at hP hS ⊢
    replace hP : va_P (dC, dI) vwCl [(o, .inr (4, [.int (nI 0), .ref aS, .ref aA, .ref aV, .int (nI (svN n)), .ref aB, .int ln, .int at_, .int wl, .ref aR, .int rm, .int ga, .int fi, .int se, .int ex, .long ha])), (aS, .inl (cI, 96, .inl S)), (aV, .inl (cI, 576, .inl (svV S V n)))] H := hP
    replace hD : va_D A [(o, .inr (4, [.int (nI 0), .ref aS, .ref aA, .ref aV, .int (nI (svN n)), .ref aB, .int ln, .int at_, .int wl, .ref aR, .int rm, .int ga, .int fi, .int se, .int ex, .long ha])), (aS, .inl (cI, 96, .inl S)), (aV, .inl (cI, 576, .inl (svV S V n)))] := hD
    refine W.widen (k := 0) (n := 0) (Nat.le_refl 0) (Nat.le_refl 0) ?_
    refine lv_aload_n hx hb dX6_call_23 rfl (lv_at hl 0 rfl) ?_
    refine lv_iload_n hx hb dX6_call_24 rfl (lv_at hl 1 rfl) ?_
    have hPc := hP.sub (ws' := [(o, .inr (4, [.int (nI 0), .ref aS, .ref aA, .ref aV, .int (nI (svN n)), .ref aB, .int ln, .int at_, .int wl, .ref aR, .int rm, .int ga, .int fi, .int se, .int ex, .long ha])), (aS, .inl (cI, 96, .inl S))]) [0, 1] rfl
    have hDc := hD.sub (ws' := [(o, .inr (4, [.int (nI 0), .ref aS, .ref aA, .ref aV, .int (nI (svN n)), .ref aB, .int ln, .int at_, .int wl, .ref aR, .int rm, .int ga, .int fi, .int se, .int ex, .long ha])), (aS, .inl (cI, 96, .inl S))]) [0, 1] (by decide) rfl
    have hFc := va_free (wc := [(o, .inr (4, [.int (nI 0), .ref aS, .ref aA, .ref aV, .int (nI (svN n)), .ref aB, .int ln, .int at_, .int wl, .ref aR, .int rm, .int ga, .int fi, .int se, .int ex, .long ha])), (aS, .inl (cI, 96, .inl S))]) hD hS hA [0, 1] rfl
    refine va_calli (va_runV (As := [.int (nI r)]) (rest := []) ⟨hx, hb, hml, hown, hts⟩ (kX6_calls l dC dI cI cV cW H.size o 0 aS aA aV (nI (svN n)) aB ln at_ wl aR rm ga fi se ex ha S cn r (hR) (by omega)) (cwV 1 hts gX6_call_X6_calls rfl rfl rfl hdX6_calls ⟨Nat.le_of_ble_eq_true rfl, Nat.le_of_ble_eq_true rfl⟩) (pW_V hK hP hPc hDc 0 4 rfl rfl rfl) rfl rfl hl.1 rfl (lv_room (Nat.le_of_ble_eq_true rfl)) dX6_call_25 ⟨Nat.zero_le _, Nat.zero_le _⟩) hS (fun q _ h => hFc q h) hFc (fun r_25 u_ t_ H1 locs ht_ hvm_ hw_ hB_ hz_ hk_ hS => ?_)
    obtain ⟨hP1, -, hD1⟩ := hB_
    rw [ht_] at hP1
    obtain ⟨hP, hD⟩ := va_join (wr := [(aV, .inl (cI, 576, .inl (svV S V n)))]) (w1 := [(o, .inr (4, [.int (nI 0), .ref aS, .ref aA, .ref aV, .int (nI (svN n)), .ref aB, .int ln, .int at_, .int wl, .ref aR, .int rm, .int ga, .int fi, .int se, .int ex, .long ha])), (aS, .inl (cI, 96, .inl (fCalls S r)))]) hP hD [0, 1] [2] rfl rfl (by decide) (by decide) hk_ hFc hP1 hD1
    clear hP1 hD1 hPc hDc hFc hk_ hz_ hvm_ ht_
    generalize H1 = H at hP hS ⊢
    replace hP : va_P (dC, dI) vwCl [(o, .inr (4, [.int (nI 0), .ref aS, .ref aA, .ref aV, .int (nI (svN n)), .ref aB, .int ln, .int at_, .int wl, .ref aR, .int rm, .int ga, .int fi, .int se, .int ex, .long ha])), (aS, .inl (cI, 96, .inl (fCalls S r))), (aV, .inl (cI, 576, .inl (svV S V n)))] H := hP.sub [1, 2, 0] rfl
    replace hD : va_D A [(o, .inr (4, [.int (nI 0), .ref aS, .ref aA, .ref aV, .int (nI (svN n)), .ref aB, .int ln, .int at_, .int wl, .ref aR, .int rm, .int ga, .int fi, .int se, .int ex, .long ha])), (aS, .inl (cI, 96, .inl (fCalls S r))), (aV, .inl (cI, 576, .inl (svV S V n)))] := hD.sub [1, 2, 0] (by decide) rfl
    refine W.widen (k := 0) (n := 0) (Nat.le_refl 0) (Nat.le_refl 0) ?_
    have hw_ : r_25 = (sWalk (gQ S) (gW S 1) (gW S 2) r) := hw_
    subst hw_
    have ec_r28_1_o_0 : (nI 0) = (nI (if sIn (nI r) 0 (S 0 - 1) = true then 0 else 1)) := by first | rfl | (first | (simp [c_10, ix_nI (show r < 2147483648 by omega)] <;> rfl))
    have ec_r28_1_o_4 : (nI (svN n)) = (nI (if sIn (nI r) 0 (S 0 - 1) = true then svN n else n)) := by first | rfl | (first | (simp [c_10, ix_nI (show r < 2147483648 by omega)] <;> rfl))
    have ec_r28_1_aS : fCalls S r = if sIn (nI r) 0 (S 0 - 1) = true then fCalls S (ix (nI r)) else S := by first | rfl | (first | (simp [c_10, ix_nI (show r < 2147483648 by omega)] <;> rfl))
    have ec_r28_1_aV : svV S V n = if sIn (nI r) 0 (S 0 - 1) = true then svV S V n else V := by first | rfl | (first | (simp [c_10, ix_nI (show r < 2147483648 by omega)] <;> rfl))
    have ew_r28_1 : ([(o, .inr (4, [.int (nI 0), .ref aS, .ref aA, .ref aV, .int (nI (svN n)), .ref aB, .int ln, .int at_, .int wl, .ref aR, .int rm, .int ga, .int fi, .int se, .int ex, .long ha])), (aS, .inl (cI, 96, .inl (fCalls S r))), (aV, .inl (cI, 576, .inl (svV S V n)))] : va_W) = [(o, .inr (4, [.int (nI (if sIn (nI r) 0 (S 0 - 1) = true then 0 else 1)), .ref aS, .ref aA, .ref aV, .int (nI (if sIn (nI r) 0 (S 0 - 1) = true then svN n else n)), .ref aB, .int ln, .int at_, .int wl, .ref aR, .int rm, .int ga, .int fi, .int se, .int ex, .long ha])), (aS, .inl (cI, 96, .inl (if sIn (nI r) 0 (S 0 - 1) = true then fCalls S (ix (nI r)) else S))), (aV, .inl (cI, 576, .inl (if sIn (nI r) 0 (S 0 - 1) = true then svV S V n else V)))] := ((((congrArg (fun z_ => ([(o, .inr (4, [.int z_, .ref aS, .ref aA, .ref aV, .int (nI (svN n)), .ref aB, .int ln, .int at_, .int wl, .ref aR, .int rm, .int ga, .int fi, .int se, .int ex, .long ha])), (aS, .inl (cI, 96, .inl (fCalls S r))), (aV, .inl (cI, 576, .inl (svV S V n)))] : va_W)) ec_r28_1_o_0).trans (congrArg (fun z_ => ([(o, .inr (4, [.int (nI (if sIn (nI r) 0 (S 0 - 1) = true then 0 else 1)), .ref aS, .ref aA, .ref aV, .int z_, .ref aB, .int ln, .int at_, .int wl, .ref aR, .int rm, .int ga, .int fi, .int se, .int ex, .long ha])), (aS, .inl (cI, 96, .inl (fCalls S r))), (aV, .inl (cI, 576, .inl (svV S V n)))] : va_W)) ec_r28_1_o_4)).trans (congrArg (fun z_ => ([(o, .inr (4, [.int (nI (if sIn (nI r) 0 (S 0 - 1) = true then 0 else 1)), .ref aS, .ref aA, .ref aV, .int (nI (if sIn (nI r) 0 (S 0 - 1) = true then svN n else n)), .ref aB, .int ln, .int at_, .int wl, .ref aR, .int rm, .int ga, .int fi, .int se, .int ex, .long ha])), (aS, .inl (cI, 96, .inl z_)), (aV, .inl (cI, 576, .inl (svV S V n)))] : va_W)) ec_r28_1_aS)).trans (congrArg (fun z_ => ([(o, .inr (4, [.int (nI (if sIn (nI r) 0 (S 0 - 1) = true then 0 else 1)), .ref aS, .ref aA, .ref aV, .int (nI (if sIn (nI r) 0 (S 0 - 1) = true then svN n else n)), .ref aB, .int ln, .int at_, .int wl, .ref aR, .int rm, .int ga, .int fi, .int se, .int ex, .long ha])), (aS, .inl (cI, 96, .inl (if sIn (nI r) 0 (S 0 - 1) = true then fCalls S (ix (nI r)) else S))), (aV, .inl (cI, 576, .inl z_))] : va_W)) ec_r28_1_aV))
    have hP9 := (w_cgP ew_r28_1 hP)
    have hD9 := (w_cgD ew_r28_1 hD)
    exact W.iret (v := (sWalk (gQ S) (gW S 1) (gW S 2) r)) hx hb hr (fun t ht hW => ⟨⟨(sWalk (gQ S) (gW S 1) (gW S 2) r), (), rfl, (show (sWalk (gQ S) (gW S 1) (gW S 2) r) = (if sIn (nI r) 0 (S 0 - 1) = true then sWalk (gQ S) (gW S 1) (gW S 2) (ix (nI r)) else 0) from by first | rfl | (first | (simp [c_10, ix_nI (show r < 2147483648 by omega)] <;> rfl))), by rw [ht]; exact hP9, va_K.moved hW.alike hK, hD9⟩, hS.F ht⟩) hS.2.2 dX6_call_28
  · refine lv_aload_n hx hb dX6_call_13 rfl (lv_at hl 0 rfl) ?_
    refine lv_iconst (v := (nI 1)) hx hb dX6_call_14 (by decide) ?_
    have hPc := hP.sub (ws' := [(o, .inr (4, [.int (nI 0), .ref aS, .ref aA, .ref aV, .int (nI n), .ref aB, .int ln, .int at_, .int wl, .ref aR, .int rm, .int ga, .int fi, .int se, .int ex, .long ha]))]) [0] rfl
    have hDc := hD.sub (ws' := [(o, .inr (4, [.int (nI 0), .ref aS, .ref aA, .ref aV, .int (nI n), .ref aB, .int ln, .int at_, .int wl, .ref aR, .int rm, .int ga, .int fi, .int se, .int ex, .long ha]))]) [0] (by decide) rfl
    have hFc := va_free (wc := [(o, .inr (4, [.int (nI 0), .ref aS, .ref aA, .ref aV, .int (nI n), .ref aB, .int ln, .int at_, .int wl, .ref aR, .int rm, .int ga, .int fi, .int se, .int ex, .long ha]))]) hD hS hA [0] rfl
    refine va_calli (va_runV (As := [.int (nI 1)]) (rest := []) ⟨hx, hb, hml, hown, hts⟩ (kX6_fails l dC dI cI cV cW H.size o 0 aS aA aV (nI n) aB ln at_ wl aR rm ga fi se ex ha 1) (cwV 1 hts gX6_call_X6_fails rfl rfl rfl hdX6_fails ⟨Nat.le_of_ble_eq_true rfl, Nat.le_of_ble_eq_true rfl⟩) (pW_V hK hP hPc hDc 0 4 rfl rfl rfl) rfl rfl hl.1 rfl (lv_room (Nat.le_of_ble_eq_true rfl)) dX6_call_15 ⟨Nat.zero_le _, Nat.zero_le _⟩) hS (fun q _ h => hFc q h) hFc (fun r_15 u_ t_ H1 locs ht_ hvm_ hw_ hB_ hz_ hk_ hS => ?_)
    obtain ⟨hP1, -, hD1⟩ := hB_
    rw [ht_] at hP1
    obtain ⟨hP, hD⟩ := va_join (wr := [(aS, .inl (cI, 96, .inl S)), (aV, .inl (cI, 576, .inl V))]) (w1 := [(o, .inr (4, [.int 1, .ref aS, .ref aA, .ref aV, .int (nI n), .ref aB, .int ln, .int at_, .int wl, .ref aR, .int rm, .int ga, .int fi, .int se, .int ex, .long ha]))]) hP hD [0] [1, 2] rfl rfl (by decide) (by decide) hk_ hFc hP1 hD1
    clear hP1 hD1 hPc hDc hFc hk_ hz_ hvm_ ht_
    generalize H1 = H at hP hS ⊢
    replace hP : va_P (dC, dI) vwCl [(o, .inr (4, [.int 1, .ref aS, .ref aA, .ref aV, .int (nI n), .ref aB, .int ln, .int at_, .int wl, .ref aR, .int rm, .int ga, .int fi, .int se, .int ex, .long ha])), (aS, .inl (cI, 96, .inl S)), (aV, .inl (cI, 576, .inl V))] H := hP.sub [2, 0, 1] rfl
    replace hD : va_D A [(o, .inr (4, [.int 1, .ref aS, .ref aA, .ref aV, .int (nI n), .ref aB, .int ln, .int at_, .int wl, .ref aR, .int rm, .int ga, .int fi, .int se, .int ex, .long ha])), (aS, .inl (cI, 96, .inl S)), (aV, .inl (cI, 576, .inl V))] := hD.sub [2, 0, 1] (by decide) rfl
    refine W.widen (k := 0) (n := 0) (Nat.le_refl 0) (Nat.le_refl 0) ?_
    have hw_ : r_15 = (nI 0) := hw_
    subst hw_
    have ec_r18_2_o_0 : 1 = (nI (if sIn x 0 (S 0 - 1) = true then 0 else 1)) := by first | rfl | (first | (simp [c_10] <;> rfl))
    have ec_r18_2_o_4 : (nI n) = (nI (if sIn x 0 (S 0 - 1) = true then svN n else n)) := by first | rfl | (first | (simp [c_10] <;> rfl))
    have ec_r18_2_aS : S = if sIn x 0 (S 0 - 1) = true then fCalls S (ix x) else S := by first | rfl | (first | (simp [c_10] <;> rfl))
    have ec_r18_2_aV : V = if sIn x 0 (S 0 - 1) = true then svV S V n else V := by first | rfl | (first | (simp [c_10] <;> rfl))
    have ew_r18_2 : ([(o, .inr (4, [.int 1, .ref aS, .ref aA, .ref aV, .int (nI n), .ref aB, .int ln, .int at_, .int wl, .ref aR, .int rm, .int ga, .int fi, .int se, .int ex, .long ha])), (aS, .inl (cI, 96, .inl S)), (aV, .inl (cI, 576, .inl V))] : va_W) = [(o, .inr (4, [.int (nI (if sIn x 0 (S 0 - 1) = true then 0 else 1)), .ref aS, .ref aA, .ref aV, .int (nI (if sIn x 0 (S 0 - 1) = true then svN n else n)), .ref aB, .int ln, .int at_, .int wl, .ref aR, .int rm, .int ga, .int fi, .int se, .int ex, .long ha])), (aS, .inl (cI, 96, .inl (if sIn x 0 (S 0 - 1) = true then fCalls S (ix x) else S))), (aV, .inl (cI, 576, .inl (if sIn x 0 (S 0 - 1) = true then svV S V n else V)))] := ((((congrArg (fun z_ => ([(o, .inr (4, [.int z_, .ref aS, .ref aA, .ref aV, .int (nI n), .ref aB, .int ln, .int at_, .int wl, .ref aR, .int rm, .int ga, .int fi, .int se, .int ex, .long ha])), (aS, .inl (cI, 96, .inl S)), (aV, .inl (cI, 576, .inl V))] : va_W)) ec_r18_2_o_0).trans (congrArg (fun z_ => ([(o, .inr (4, [.int (nI (if sIn x 0 (S 0 - 1) = true then 0 else 1)), .ref aS, .ref aA, .ref aV, .int z_, .ref aB, .int ln, .int at_, .int wl, .ref aR, .int rm, .int ga, .int fi, .int se, .int ex, .long ha])), (aS, .inl (cI, 96, .inl S)), (aV, .inl (cI, 576, .inl V))] : va_W)) ec_r18_2_o_4)).trans (congrArg (fun z_ => ([(o, .inr (4, [.int (nI (if sIn x 0 (S 0 - 1) = true then 0 else 1)), .ref aS, .ref aA, .ref aV, .int (nI (if sIn x 0 (S 0 - 1) = true then svN n else n)), .ref aB, .int ln, .int at_, .int wl, .ref aR, .int rm, .int ga, .int fi, .int se, .int ex, .long ha])), (aS, .inl (cI, 96, .inl z_)), (aV, .inl (cI, 576, .inl V))] : va_W)) ec_r18_2_aS)).trans (congrArg (fun z_ => ([(o, .inr (4, [.int (nI (if sIn x 0 (S 0 - 1) = true then 0 else 1)), .ref aS, .ref aA, .ref aV, .int (nI (if sIn x 0 (S 0 - 1) = true then svN n else n)), .ref aB, .int ln, .int at_, .int wl, .ref aR, .int rm, .int ga, .int fi, .int se, .int ex, .long ha])), (aS, .inl (cI, 96, .inl (if sIn x 0 (S 0 - 1) = true then fCalls S (ix x) else S))), (aV, .inl (cI, 576, .inl z_))] : va_W)) ec_r18_2_aV))
    have hP9 := (w_cgP ew_r18_2 hP)
    have hD9 := (w_cgD ew_r18_2 hD)
    exact W.iret (v := (nI 0)) hx hb hr (fun t ht hW => ⟨⟨(nI 0), (), rfl, (show (nI 0) = (if sIn x 0 (S 0 - 1) = true then sWalk (gQ S) (gW S 1) (gW S 2) (ix x) else 0) from by first | rfl | (first | (simp [c_10] <;> rfl))), by rw [ht]; exact hP9, va_K.moved hW.alike hK, hD9⟩, hS.F ht⟩) hS.2.2 dX6_call_18
set_option maxHeartbeats 4000000 in
set_option maxRecDepth 100000 in
theorem kX6_refusesMisplacing (l : Launch) (dC : Nat → ClassId) (dI : Nat → Nat → Nat) (cI cV cW : ClassId) (o : Nat) (th : Int32) (aS : Nat) (aA : Nat) (aV : Nat) (sm : Int32) (aB : Nat) (ln : Int32) (at_ : Int32) (wl : Int32) (aR : Nat) (rm : Int32) (ga : Int32) (fi : Int32) (se : Int32) (ex : Int32) (ha : Int64) (S : Nat → Int32) (cn : Nat) (x : Int32) (y : Int32) (hR : RO S cn) : Met l yX6_refusesMisplacing wsX6_refusesMisplacing ({ frames := 3, cells := 0, slots := 0, locals := 66 }) (pR (dC, dI) (tyS cI cV cW) [.ref o, .int x, .int y] [(o, .inr (4, [.int th, .ref aS, .ref aA, .ref aV, .int sm, .ref aB, .int ln, .int at_, .int wl, .ref aR, .int rm, .int ga, .int fi, .int se, .int ex, .long ha])), (aS, .inl (cI, 96, .inl S))]) (vp_Si (fun r_ => r_ = (nI (cdMp S cn x y)))) 0 0 (fun _ => False) := by
  refine Met.ofW (cc := cX6_refusesMisplacing) (maxL := 3) (ret := (some .int)) (by decide) rfl ?_
  intro p e s m args below meth c s₁ B hml hv
  obtain ⟨rfl, hP, hK⟩ := hv
  have hx := B.exec
  have hb := B.bytes
  have hr := B.returns
  have hts := atoms_spec (ws := wsX6_refusesMisplacing) B.pre
  have hown : s.vm.findClass RX6 = some m.cls := findClass_of_methodNamed B.named
  have hlocks := B.notSynchronized
  have hiX6 : ∀ w ∈ u_ws RX6 TX6 16, w ∈ wsX6_refusesMisplacing := by decide +kernel
  have hl := lv_entry ([.ref o, .int x, .int y]) (n := 3) (Nat.le_of_ble_eq_true rfl)
  rw [lg_entry_eq]
  generalize (lg_sl ([.ref o, .int x, .int y]) ++ List.replicate (3 - (lg_sl ([.ref o, .int x, .int y])).length) Slot.unset).toArray = ls at hl ⊢
  replace hl : lv_has ls 3 [(0, .ref o), (1, .int x), (2, .int y)] := hl
  have hc := hR.2.1
  refine lv_aload_n hx hb dX6_refusesMisplacing_0 rfl (lv_at hl 0 rfl) ?_
  refine lv_iload_n hx hb dX6_refusesMisplacing_1 rfl (lv_at hl 1 rfl) ?_
  refine vp_callSi (W.runV (As := [.int x]) (rest := []) ⟨hx, hb, hml, hown, hts⟩ (kX6_isRecord l dC dI cI cV cW o th aS aA aV sm aB ln at_ wl aR rm ga fi se ex ha S x) (cwV 1 hts gX6_refusesMisplacing_X6_isRecord rfl rfl rfl hdX6_isRecord ⟨Nat.le_of_ble_eq_true rfl, Nat.le_of_ble_eq_true rfl⟩) (pR_V hK hP 0 4 rfl rfl rfl [0, 1] rfl) rfl rfl hl.1 rfl (lv_room (Nat.le_of_ble_eq_true rfl)) dX6_refusesMisplacing_2 ⟨Nat.zero_le _, Nat.zero_le _⟩) (fun r_2 hr_ => ?_)
  subst hr_
  refine b_if_eq (tgt := 15) hx hb dX6_refusesMisplacing_5 (by decide) (fun c_5 => ?_) (fun c_5 => ?_)
  · refine lv_iconst (v := (nI 1)) hx hb dX6_refusesMisplacing_15 (by decide) ?_
    exact W.iret (v := (nI 1)) hx hb hr (fun t ht hW => ⟨_, rfl, (show (nI 1) = (nI (cdMp S cn x y)) from by first | rfl | (first | (simp [cdMp, c_5] <;> rfl))), ht⟩) (fun q hq => absurd hq List.not_mem_nil) dX6_refusesMisplacing_16
  · obtain ⟨r, hr_0, rfl⟩ := rc_of2 hR c_5
    refine lv_iload_n hx hb dX6_refusesMisplacing_8 rfl (lv_at hl 2 rfl) ?_
    refine vp_callSi (W.runS (As := [.int y]) (rest := []) ⟨hx, hb, hml, hown, hts⟩ (kX6_isShelf l dC dI cI cV cW y) (va_cwS 1 hts gX6_refusesMisplacing_X6_isShelf rfl rfl rfl hdX6_isShelf ⟨Nat.le_of_ble_eq_true rfl, Nat.le_of_ble_eq_true rfl⟩) (pR_S hK hP [] rfl) rfl rfl hl.1 rfl (lv_room (Nat.le_of_ble_eq_true rfl)) dX6_refusesMisplacing_9 ⟨Nat.zero_le _, Nat.zero_le _⟩) (fun r_9 hr_ => ?_)
    subst hr_
    refine b_if_ne (tgt := 17) hx hb dX6_refusesMisplacing_12 (by decide) (fun c_12 => ?_) (fun c_12 => ?_)
    · obtain ⟨k, hk, rfl⟩ := sh_of c_12
      refine lv_aload_n hx hb dX6_refusesMisplacing_17 rfl (lv_at hl 0 rfl) ?_
      refine lv_iload_n hx hb dX6_refusesMisplacing_18 rfl (lv_at hl 1 rfl) ?_
      refine lv_iconst (v := (nI 1)) hx hb dX6_refusesMisplacing_19 (by decide) ?_
      refine vp_callSi (W.runV (As := [.int (nI r), .int (nI 1)]) (rest := []) ⟨hx, hb, hml, hown, hts⟩ (kX6_of l dC dI cI cV cW o th aS aA aV sm aB ln at_ wl aR rm ga fi se ex ha S r 1 (by omega) (by omega)) (cwV 2 hts gX6_refusesMisplacing_X6_of rfl rfl rfl hdX6_of ⟨Nat.le_of_ble_eq_true rfl, Nat.le_of_ble_eq_true rfl⟩) (pR_V hK hP 0 4 rfl rfl rfl [0, 1] rfl) rfl rfl hl.1 rfl (lv_room (Nat.le_of_ble_eq_true rfl)) dX6_refusesMisplacing_20 ⟨Nat.zero_le _, Nat.zero_le _⟩) (fun r_20 hr_ => ?_)
      subst hr_
      refine lv_iload_n hx hb dX6_refusesMisplacing_23 rfl (lv_at hl 2 rfl) ?_
      refine lv_icmp_eq (tgt := 45) hx hb dX6_refusesMisplacing_24 (by decide) (fun c_24 => ?_) (fun c_24 => ?_)
      · refine lv_iconst (v := (nI 0)) hx hb dX6_refusesMisplacing_45 (by decide) ?_
        exact W.iret (v := (nI 0)) hx hb hr (fun t ht hW => ⟨_, rfl, (show (nI 0) = (nI (cdMp S cn (nI r) (nI k))) from by first | rfl | (first | (simp [cdMp, c_5, c_12, c_24, ix_nI (show r < 2147483648 by omega), ix_nI (show k < 2147483648 by omega)] <;> rfl))), ht⟩) (fun q hq => absurd hq List.not_mem_nil) dX6_refusesMisplacing_46
      · refine lv_aload_n hx hb dX6_refusesMisplacing_27 rfl (lv_at hl 0 rfl) ?_
        refine lv_iload_n hx hb dX6_refusesMisplacing_28 rfl (lv_at hl 2 rfl) ?_
        refine vp_callSi (W.runV (As := [.int (nI k)]) (rest := []) ⟨hx, hb, hml, hown, hts⟩ (kX6_room l dC dI cI cV cW o th aS aA aV sm aB ln at_ wl aR rm ga fi se ex ha S cn k (hR) (by omega)) (cwV 1 hts gX6_refusesMisplacing_X6_room rfl rfl rfl hdX6_room ⟨Nat.le_of_ble_eq_true rfl, Nat.le_of_ble_eq_true rfl⟩) (pR_V hK hP 0 4 rfl rfl rfl [0, 1] rfl) rfl rfl hl.1 rfl (lv_room (Nat.le_of_ble_eq_true rfl)) dX6_refusesMisplacing_29 ⟨Nat.zero_le _, Nat.zero_le _⟩) (fun r_29 hr_ => ?_)
        subst hr_
        refine lv_aload_n hx hb dX6_refusesMisplacing_32 rfl (lv_at hl 0 rfl) ?_
        refine lv_iload_n hx hb dX6_refusesMisplacing_33 rfl (lv_at hl 1 rfl) ?_
        refine lv_iconst (v := (nI 0)) hx hb dX6_refusesMisplacing_34 (by decide) ?_
        refine vp_callSi (W.runV (As := [.int (nI r), .int (nI 0)]) (rest := [.int (sRm S cn k)]) ⟨hx, hb, hml, hown, hts⟩ (kX6_of l dC dI cI cV cW o th aS aA aV sm aB ln at_ wl aR rm ga fi se ex ha S r 0 (by omega) (by omega)) (cwV 2 hts gX6_refusesMisplacing_X6_of rfl rfl rfl hdX6_of ⟨Nat.le_of_ble_eq_true rfl, Nat.le_of_ble_eq_true rfl⟩) (pR_V hK hP 0 4 rfl rfl rfl [0, 1] rfl) rfl rfl hl.1 rfl (lv_room (Nat.le_of_ble_eq_true rfl)) dX6_refusesMisplacing_35 ⟨Nat.zero_le _, Nat.zero_le _⟩) (fun r_35 hr_ => ?_)
        subst hr_
        refine lv_icmp_ge (tgt := 45) hx hb dX6_refusesMisplacing_38 (by decide) (fun c_38 => ?_) (fun c_38 => ?_)
        · refine lv_iconst (v := (nI 0)) hx hb dX6_refusesMisplacing_45 (by decide) ?_
          exact W.iret (v := (nI 0)) hx hb hr (fun t ht hW => ⟨_, rfl, (show (nI 0) = (nI (cdMp S cn (nI r) (nI k))) from by first | rfl | (first | (simp [cdMp, c_5, c_12, c_24, c_38, Int32.not_lt.mpr c_38, ix_nI (show r < 2147483648 by omega), ix_nI (show k < 2147483648 by omega)] <;> rfl))), ht⟩) (fun q hq => absurd hq List.not_mem_nil) dX6_refusesMisplacing_46
        · refine lv_iconst (v := (nI 2)) hx hb dX6_refusesMisplacing_41 (by decide) ?_
          refine lv_goto (tgt := 46) hx hb dX6_refusesMisplacing_42 (by decide) ?_
          exact W.iret (v := (nI 2)) hx hb hr (fun t ht hW => ⟨_, rfl, (show (nI 2) = (nI (cdMp S cn (nI r) (nI k))) from by first | rfl | (first | (simp [cdMp, c_5, c_12, c_24, c_38, Int32.not_le.mp c_38, ix_nI (show r < 2147483648 by omega), ix_nI (show k < 2147483648 by omega)] <;> rfl))), ht⟩) (fun q hq => absurd hq List.not_mem_nil) dX6_refusesMisplacing_46
    · refine lv_iconst (v := (nI 1)) hx hb dX6_refusesMisplacing_15 (by decide) ?_
      exact W.iret (v := (nI 1)) hx hb hr (fun t ht hW => ⟨_, rfl, (show (nI 1) = (nI (cdMp S cn (nI r) y)) from by first | rfl | (first | (simp [cdMp, c_5, c_12, ix_nI (show r < 2147483648 by omega)] <;> rfl))), ht⟩) (fun q hq => absurd hq List.not_mem_nil) dX6_refusesMisplacing_16
theorem hdX6_refusesMisplacing : yX6_refusesMisplacing.cls = RX6 ∧ yX6_refusesMisplacing.cls ≠ "java/lang/invoke/MethodHandle" ∧ yX6_refusesMisplacing.cls ≠ "java/lang/invoke/VarHandle" ∧ (parseMethodDescriptor yX6_refusesMisplacing.desc).map (fun d => d.parameters.length) = some 2 := by decide +kernel
set_option maxHeartbeats 4000000 in
set_option maxRecDepth 100000 in
theorem kX6_misplace (l : Launch) (dC : Nat → ClassId) (dI : Nat → Nat → Nat) (cI cV cW : ClassId) (sz : Nat) (o : Nat) (th : Int32) (aS : Nat) (aA : Nat) (aV : Nat) (aB : Nat) (ln : Int32) (at_ : Int32) (wl : Int32) (aR : Nat) (rm : Int32) (ga : Int32) (fi : Int32) (se : Int32) (ex : Int32) (ha : Int64) (S : Nat → Int32) (cn : Nat) (V : Nat → Int32) (n : Nat) (x : Int32) (y : Int32) (hR : RO S cn) (hn : n ≤ 6) : Met l yX6_misplace wsX6_misplace ({ frames := 4, cells := 0, slots := 0, locals := 88 }) (pW (dC, dI) (tyS cI cV cW) sz [.ref o, .int x, .int y] [(o, .inr (4, [.int th, .ref aS, .ref aA, .ref aV, .int (nI n), .ref aB, .int ln, .int at_, .int wl, .ref aR, .int rm, .int ga, .int fi, .int se, .int ex, .long ha])), (aS, .inl (cI, 96, .inl S)), (aV, .inl (cI, 576, .inl V))]) (va_Qi (fun (r_ : Int32) (_ : Unit) => r_ = (if cdMp S cn x y = 0 then gW S 1 (ix x) else 0)) (fun (_ : Unit) t => qB (dC, dI) (tyS cI cV cW) (va_A [(o, .inr (4, [.int th, .ref aS, .ref aA, .ref aV, .int (nI n), .ref aB, .int ln, .int at_, .int wl, .ref aR, .int rm, .int ga, .int fi, .int se, .int ex, .long ha])), (aS, .inl (cI, 96, .inl S)), (aV, .inl (cI, 576, .inl V))] sz) [(o, .inr (4, [.int (nI (cdMp S cn x y)), .ref aS, .ref aA, .ref aV, .int (nI (if cdMp S cn x y = 0 then svN n else n)), .ref aB, .int ln, .int at_, .int wl, .ref aR, .int rm, .int ga, .int fi, .int se, .int ex, .long ha])), (aS, .inl (cI, 96, .inl (if cdMp S cn x y = 0 then upd S (15 + 5 * (ix x) + 1) y else S))), (aV, .inl (cI, 576, .inl (if cdMp S cn x y = 0 then svV S V n else V)))] t) (va_A [(o, .inr (4, [.int th, .ref aS, .ref aA, .ref aV, .int (nI n), .ref aB, .int ln, .int at_, .int wl, .ref aR, .int rm, .int ga, .int fi, .int se, .int ex, .long ha])), (aS, .inl (cI, 96, .inl S)), (aV, .inl (cI, 576, .inl V))] sz)) 0 0 (va_A [(o, .inr (4, [.int th, .ref aS, .ref aA, .ref aV, .int (nI n), .ref aB, .int ln, .int at_, .int wl, .ref aR, .int rm, .int ga, .int fi, .int se, .int ex, .long ha])), (aS, .inl (cI, 96, .inl S)), (aV, .inl (cI, 576, .inl V))] sz) := by
  refine Met.ofW (cc := cX6_misplace) (maxL := 5) (ret := (some .int)) (by decide) rfl ?_
  intro p e s m args below meth c s₁ B hml hv
  obtain ⟨rfl, hsz, hP, hK, hD0⟩ := hv
  have hx := B.exec
  have hb := B.bytes
  have hr := B.returns
  have hts := atoms_spec (ws := wsX6_misplace) B.pre
  have hown : s.vm.findClass RX6 = some m.cls := findClass_of_methodNamed B.named
  have hlocks := B.notSynchronized
  subst hsz
  have hD := hD0.self (sz := s.heap.size)
  generalize hAe : va_A [(o, .inr (4, [.int th, .ref aS, .ref aA, .ref aV, .int (nI n), .ref aB, .int ln, .int at_, .int wl, .ref aR, .int rm, .int ga, .int fi, .int se, .int ex, .long ha])), (aS, .inl (cI, 96, .inl S)), (aV, .inl (cI, 576, .inl V))] s.heap.size = A at hD ⊢
  have hA : ∀ q : Nat, s.heap.size ≤ q → A q := fun q h => by rw [← hAe]; exact Or.inr h
  have hS : va_S A s.heap s.heap [] := va_S.rf
  refine w_gen hP hS (fun H locs hP hS => ?_)
  have hf25 := hts (.fieldLink RX6 25 "VaultShelvesModel" "thrown" "I") (by decide +kernel)
  have hiX6 : ∀ w ∈ u_ws RX6 TX6 16, w ∈ wsX6_misplace := by decide +kernel
  have hl := lv_entry ([.ref o, .int x, .int y]) (n := 5) (Nat.le_of_ble_eq_true rfl)
  rw [lg_entry_eq]
  generalize (lg_sl ([.ref o, .int x, .int y]) ++ List.replicate (5 - (lg_sl ([.ref o, .int x, .int y])).length) Slot.unset).toArray = ls at hl ⊢
  replace hl : lv_has ls 5 [(0, .ref o), (1, .int x), (2, .int y)] := hl
  have hc := hR.2.1
  have hcd := cdMp_le S cn x y
  refine lv_aload_n hx hb dX6_misplace_0 rfl (lv_at hl 0 rfl) ?_
  refine lv_iconst (v := (nI 0)) hx hb dX6_misplace_1 (by decide) ?_
  refine va_put (D := (dC, dI)) (ci := 4) (v := .int (nI 0)) (ty := .int) (C := RX6) (T := TX6) (N := 16) hx hb hts hiX6 tyX6 tyX6_ok nmX6 hown hK hP hD hS 0 rfl rfl 0 (by decide) hf25 (fun _ h9 => h9) rfl (by decide +kernel) rfl rfl (Nat.le_of_ble_eq_true rfl) dX6_misplace_2 (fun H locs hP hD hS => ?_)
  replace hP : va_P (dC, dI) vwCl [(o, .inr (4, [.int (nI 0), .ref aS, .ref aA, .ref aV, .int (nI n), .ref aB, .int ln, .int at_, .int wl, .ref aR, .int rm, .int ga, .int fi, .int se, .int ex, .long ha])), (aS, .inl (cI, 96, .inl S)), (aV, .inl (cI, 576, .inl V))] H := hP
  replace hD : va_D A [(o, .inr (4, [.int (nI 0), .ref aS, .ref aA, .ref aV, .int (nI n), .ref aB, .int ln, .int at_, .int wl, .ref aR, .int rm, .int ga, .int fi, .int se, .int ex, .long ha])), (aS, .inl (cI, 96, .inl S)), (aV, .inl (cI, 576, .inl V))] := hD
  refine lv_aload_n hx hb dX6_misplace_5 rfl (lv_at hl 0 rfl) ?_
  refine lv_iload_n hx hb dX6_misplace_6 rfl (lv_at hl 1 rfl) ?_
  refine lv_iload_n hx hb dX6_misplace_7 rfl (lv_at hl 2 rfl) ?_
  refine vp_callSi (W.runV (As := [.int x, .int y]) (rest := []) ⟨hx, hb, hml, hown, hts⟩ (kX6_refusesMisplacing l dC dI cI cV cW o 0 aS aA aV (nI n) aB ln at_ wl aR rm ga fi se ex ha S cn x y (hR)) (cwV 2 hts gX6_misplace_X6_refusesMisplacing rfl rfl rfl hdX6_refusesMisplacing ⟨Nat.le_of_ble_eq_true rfl, Nat.le_of_ble_eq_true rfl⟩) (pR_V hK hP 0 4 rfl rfl rfl [0, 1] rfl) rfl rfl hl.1 rfl (lv_room (Nat.le_of_ble_eq_true rfl)) dX6_misplace_8 ⟨Nat.zero_le _, Nat.zero_le _⟩) (fun r_8 hr_ => ?_)
  subst hr_
  refine lv_istore_n (lv' := [(3, .int (nI (cdMp S cn x y))), (0, .ref o), (1, .int x), (2, .int y)]) hx hb dX6_misplace_11 rfl hl (by decide) rfl (fun ls hl => ?_)
  refine lv_iload_n hx hb dX6_misplace_12 rfl (lv_at hl 0 rfl) ?_
  refine n_if_eq (tgt := 22) hx hb dX6_misplace_13 (by decide) (by omega) (fun c_13 => ?_) (fun c_13 => ?_)
  · have h0 := cdMp_0 c_13
    obtain ⟨r, hr_0, rfl⟩ := rc_of2 hR h0.1
    refine lv_aload_n hx hb dX6_misplace_22 rfl (lv_at hl 1 rfl) ?_
    have hPc := hP.sub (ws' := [(o, .inr (4, [.int (nI 0), .ref aS, .ref aA, .ref aV, .int (nI n), .ref aB, .int ln, .int at_, .int wl, .ref aR, .int rm, .int ga, .int fi, .int se, .int ex, .long ha])), (aS, .inl (cI, 96, .inl S)), (aV, .inl (cI, 576, .inl V))]) [0, 1, 2] rfl
    have hDc := hD.sub (ws' := [(o, .inr (4, [.int (nI 0), .ref aS, .ref aA, .ref aV, .int (nI n), .ref aB, .int ln, .int at_, .int wl, .ref aR, .int rm, .int ga, .int fi, .int se, .int ex, .long ha])), (aS, .inl (cI, 96, .inl S)), (aV, .inl (cI, 576, .inl V))]) [0, 1, 2] (by decide) rfl
    have hFc := va_free (wc := [(o, .inr (4, [.int (nI 0), .ref aS, .ref aA, .ref aV, .int (nI n), .ref aB, .int ln, .int at_, .int wl, .ref aR, .int rm, .int ga, .int fi, .int se, .int ex, .long ha])), (aS, .inl (cI, 96, .inl S)), (aV, .inl (cI, 576, .inl V))]) hD hS hA [0, 1, 2] rfl
    refine va_callv (va_runV (As := []) (rest := []) ⟨hx, hb, hml, hown, hts⟩ (kX6_saves l dC dI cI cV cW H.size o 0 aS aA aV aB ln at_ wl aR rm ga fi se ex ha S V n (hn)) (cwV 0 hts gX6_misplace_X6_saves rfl rfl rfl hdX6_saves ⟨Nat.le_of_ble_eq_true rfl, Nat.le_of_ble_eq_true rfl⟩) (pW_V hK hP hPc hDc 0 4 rfl rfl rfl) rfl rfl hl.1 rfl (lv_room (Nat.le_of_ble_eq_true rfl)) dX6_misplace_23 ⟨Nat.zero_le _, Nat.zero_le _⟩) hS (fun q _ h => hFc q h) hFc (fun u_ t_ H1 locs ht_ hvm_ hw_ hB_ hz_ hk_ hS => ?_)
    obtain ⟨hP1, -, hD1⟩ := hB_
    rw [ht_] at hP1
    obtain ⟨hP, hD⟩ := va_join (wr := []) (w1 := [(o, .inr (4, [.int (nI 0), .ref aS, .ref aA, .ref aV, .int (nI (svN n)), .ref aB, .int ln, .int at_, .int wl, .ref aR, .int rm, .int ga, .int fi, .int se, .int ex, .long ha])), (aS, .inl (cI, 96, .inl S)), (aV, .inl (cI, 576, .inl (svV S V n)))]) hP hD [0, 1, 2] [] rfl rfl (by decide) (by decide) hk_ hFc hP1 hD1
    clear hP1 hD1 hPc hDc hFc hk_ hz_ hvm_ ht_
    generalize H1 = H at hP hS ⊢
    replace hP : va_P (dC, dI) vwCl [(o, .inr (4, [.int (nI 0), .ref aS, .ref aA, .ref aV, .int (nI (svN n)), .ref aB, .int ln, .int at_, .int wl, .ref aR, .int rm, .int ga, .int fi, .int se, .int ex, .long ha])), (aS, .inl (cI, 96, .inl S)), (aV, .inl (cI, 576, .inl (svV S V n)))] H := hP
    replace hD : va_D A [(o, .inr (4, [.int (nI 0), .ref aS, .ref aA, .ref aV, .int (nI (svN n)), .ref aB, .int ln, .int at_, .int wl, .ref aR, .int rm, .int ga, .int fi, .int se, .int ex, .long ha])), (aS, .inl (cI, 96, .inl S)), (aV, .inl (cI, 576, .inl (svV S V n)))] := hD
    refine W.widen (k := 0) (n := 0) (Nat.le_refl 0) (Nat.le_refl 0) ?_
    refine lv_aload_n hx hb dX6_misplace_26 rfl (lv_at hl 1 rfl) ?_
    refine lv_iload_n hx hb dX6_misplace_27 rfl (lv_at hl 2 rfl) ?_
    refine lv_iconst (v := (nI 1)) hx hb dX6_misplace_28 (by decide) ?_
    refine vp_callSi (W.runV (As := [.int (nI r), .int (nI 1)]) (rest := []) ⟨hx, hb, hml, hown, hts⟩ (kX6_of l dC dI cI cV cW o 0 aS aA aV (nI (svN n)) aB ln at_ wl aR rm ga fi se ex ha S r 1 (by omega) (by omega)) (cwV 2 hts gX6_misplace_X6_of rfl rfl rfl hdX6_of ⟨Nat.le_of_ble_eq_true rfl, Nat.le_of_ble_eq_true rfl⟩) (pR_V hK hP 0 4 rfl rfl rfl [0, 1] rfl) rfl rfl hl.1 rfl (lv_room (Nat.le_of_ble_eq_true rfl)) dX6_misplace_29 ⟨Nat.zero_le _, Nat.zero_le _⟩) (fun r_29 hr_ => ?_)
    subst hr_
    refine lv_istore (lv' := [(4, .int (gW S 1 r)), (3, .int (nI (cdMp S cn (nI r) y))), (0, .ref o), (1, .int (nI r)), (2, .int y)]) hx hb dX6_misplace_32 hl (by decide) rfl (fun ls hl => ?_)
    refine lv_aload_n hx hb dX6_misplace_34 rfl (lv_at hl 2 rfl) ?_
    refine lv_iload_n hx hb dX6_misplace_35 rfl (lv_at hl 3 rfl) ?_
    refine lv_iconst (v := (nI 1)) hx hb dX6_misplace_36 (by decide) ?_
    refine lv_iload_n hx hb dX6_misplace_37 rfl (lv_at hl 4 rfl) ?_
    have hPc := hP.sub (ws' := [(o, .inr (4, [.int (nI 0), .ref aS, .ref aA, .ref aV, .int (nI (svN n)), .ref aB, .int ln, .int at_, .int wl, .ref aR, .int rm, .int ga, .int fi, .int se, .int ex, .long ha])), (aS, .inl (cI, 96, .inl S))]) [0, 1] rfl
    have hDc := hD.sub (ws' := [(o, .inr (4, [.int (nI 0), .ref aS, .ref aA, .ref aV, .int (nI (svN n)), .ref aB, .int ln, .int at_, .int wl, .ref aR, .int rm, .int ga, .int fi, .int se, .int ex, .long ha])), (aS, .inl (cI, 96, .inl S))]) [0, 1] (by decide) rfl
    have hFc := va_free (wc := [(o, .inr (4, [.int (nI 0), .ref aS, .ref aA, .ref aV, .int (nI (svN n)), .ref aB, .int ln, .int at_, .int wl, .ref aR, .int rm, .int ga, .int fi, .int se, .int ex, .long ha])), (aS, .inl (cI, 96, .inl S))]) hD hS hA [0, 1] rfl
    refine va_callv (va_runV (As := [.int (nI r), .int (nI 1), .int y]) (rest := []) ⟨hx, hb, hml, hown, hts⟩ (kX6_lay l dC dI cI cV cW H.size o 0 aS aA aV (nI (svN n)) aB ln at_ wl aR rm ga fi se ex ha S r 1 y (by omega) (by omega)) (cwV 3 hts gX6_misplace_X6_lay rfl rfl rfl hdX6_lay ⟨Nat.le_of_ble_eq_true rfl, Nat.le_of_ble_eq_true rfl⟩) (pW_V hK hP hPc hDc 0 4 rfl rfl rfl) rfl rfl hl.1 rfl (lv_room (Nat.le_of_ble_eq_true rfl)) dX6_misplace_38 ⟨Nat.zero_le _, Nat.zero_le _⟩) hS (fun q _ h => hFc q h) hFc (fun u_ t_ H1 locs ht_ hvm_ hw_ hB_ hz_ hk_ hS => ?_)
    obtain ⟨hP1, -, hD1⟩ := hB_
    rw [ht_] at hP1
    obtain ⟨hP, hD⟩ := va_join (wr := [(aV, .inl (cI, 576, .inl (svV S V n)))]) (w1 := [(o, .inr (4, [.int (nI 0), .ref aS, .ref aA, .ref aV, .int (nI (svN n)), .ref aB, .int ln, .int at_, .int wl, .ref aR, .int rm, .int ga, .int fi, .int se, .int ex, .long ha])), (aS, .inl (cI, 96, .inl (upd S (15 + (5 * r) + 1) y)))]) hP hD [0, 1] [2] rfl rfl (by decide) (by decide) hk_ hFc hP1 hD1
    clear hP1 hD1 hPc hDc hFc hk_ hz_ hvm_ ht_
    generalize H1 = H at hP hS ⊢
    replace hP : va_P (dC, dI) vwCl [(o, .inr (4, [.int (nI 0), .ref aS, .ref aA, .ref aV, .int (nI (svN n)), .ref aB, .int ln, .int at_, .int wl, .ref aR, .int rm, .int ga, .int fi, .int se, .int ex, .long ha])), (aS, .inl (cI, 96, .inl (upd S (15 + (5 * r) + 1) y))), (aV, .inl (cI, 576, .inl (svV S V n)))] H := hP.sub [1, 2, 0] rfl
    replace hD : va_D A [(o, .inr (4, [.int (nI 0), .ref aS, .ref aA, .ref aV, .int (nI (svN n)), .ref aB, .int ln, .int at_, .int wl, .ref aR, .int rm, .int ga, .int fi, .int se, .int ex, .long ha])), (aS, .inl (cI, 96, .inl (upd S (15 + (5 * r) + 1) y))), (aV, .inl (cI, 576, .inl (svV S V n)))] := hD.sub [1, 2, 0] (by decide) rfl
    refine W.widen (k := 0) (n := 0) (Nat.le_refl 0) (Nat.le_refl 0) ?_
    refine lv_iload hx hb dX6_misplace_41 (lv_at hl 0 rfl) ?_
    have ec_r43_1_o_0 : (nI 0) = (nI (cdMp S cn (nI r) y)) := by first | rfl | (first | (simp [c_13, ix_nI (show r < 2147483648 by omega)] <;> rfl))
    have ec_r43_1_o_4 : (nI (svN n)) = (nI (if cdMp S cn (nI r) y = 0 then svN n else n)) := by first | rfl | (first | (simp [c_13, ix_nI (show r < 2147483648 by omega)] <;> rfl))
    have ec_r43_1_aS : upd S (15 + (5 * r) + 1) y = if cdMp S cn (nI r) y = 0 then upd S (15 + 5 * (ix (nI r)) + 1) y else S := by first | rfl | (first | (simp [c_13, ix_nI (show r < 2147483648 by omega)] <;> rfl))
    have ec_r43_1_aV : svV S V n = if cdMp S cn (nI r) y = 0 then svV S V n else V := by first | rfl | (first | (simp [c_13, ix_nI (show r < 2147483648 by omega)] <;> rfl))
    have ew_r43_1 : ([(o, .inr (4, [.int (nI 0), .ref aS, .ref aA, .ref aV, .int (nI (svN n)), .ref aB, .int ln, .int at_, .int wl, .ref aR, .int rm, .int ga, .int fi, .int se, .int ex, .long ha])), (aS, .inl (cI, 96, .inl (upd S (15 + (5 * r) + 1) y))), (aV, .inl (cI, 576, .inl (svV S V n)))] : va_W) = [(o, .inr (4, [.int (nI (cdMp S cn (nI r) y)), .ref aS, .ref aA, .ref aV, .int (nI (if cdMp S cn (nI r) y = 0 then svN n else n)), .ref aB, .int ln, .int at_, .int wl, .ref aR, .int rm, .int ga, .int fi, .int se, .int ex, .long ha])), (aS, .inl (cI, 96, .inl (if cdMp S cn (nI r) y = 0 then upd S (15 + 5 * (ix (nI r)) + 1) y else S))), (aV, .inl (cI, 576, .inl (if cdMp S cn (nI r) y = 0 then svV S V n else V)))] := ((((congrArg (fun z_ => ([(o, .inr (4, [.int z_, .ref aS, .ref aA, .ref aV, .int (nI (svN n)), .ref aB, .int ln, .int at_, .int wl, .ref aR, .int rm, .int ga, .int fi, .int se, .int ex, .long ha])), (aS, .inl (cI, 96, .inl (upd S (15 + (5 * r) + 1) y))), (aV, .inl (cI, 576, .inl (svV S V n)))] : va_W)) ec_r43_1_o_0).trans (congrArg (fun z_ => ([(o, .inr (4, [.int (nI (cdMp S cn (nI r) y)), .ref aS, .ref aA, .ref aV, .int z_, .ref aB, .int ln, .int at_, .int wl, .ref aR, .int rm, .int ga, .int fi, .int se, .int ex, .long ha])), (aS, .inl (cI, 96, .inl (upd S (15 + (5 * r) + 1) y))), (aV, .inl (cI, 576, .inl (svV S V n)))] : va_W)) ec_r43_1_o_4)).trans (congrArg (fun z_ => ([(o, .inr (4, [.int (nI (cdMp S cn (nI r) y)), .ref aS, .ref aA, .ref aV, .int (nI (if cdMp S cn (nI r) y = 0 then svN n else n)), .ref aB, .int ln, .int at_, .int wl, .ref aR, .int rm, .int ga, .int fi, .int se, .int ex, .long ha])), (aS, .inl (cI, 96, .inl z_)), (aV, .inl (cI, 576, .inl (svV S V n)))] : va_W)) ec_r43_1_aS)).trans (congrArg (fun z_ => ([(o, .inr (4, [.int (nI (cdMp S cn (nI r) y)), .ref aS, .ref aA, .ref aV, .int (nI (if cdMp S cn (nI r) y = 0 then svN n else n)), .ref aB, .int ln, .int at_, .int wl, .ref aR, .int rm, .int ga, .int fi, .int se, .int ex, .long ha])), (aS, .inl (cI, 96, .inl (if cdMp S cn (nI r) y = 0 then upd S (15 + 5 * (ix (nI r)) + 1) y else S))), (aV, .inl (cI, 576, .inl z_))] : va_W)) ec_r43_1_aV))
    have hP9 := (w_cgP ew_r43_1 hP)
    have hD9 := (w_cgD ew_r43_1 hD)
    exact W.iret (v := (gW S 1 r)) hx hb hr (fun t ht hW => ⟨⟨(gW S 1 r), (), rfl, (show (gW S 1 r) = (if cdMp S cn (nI r) y = 0 then gW S 1 (ix (nI r)) else 0) from by first | rfl | (first | (simp [c_13, ix_nI (show r < 2147483648 by omega)] <;> rfl))), by rw [ht]; exact hP9, va_K.moved hW.alike hK, hD9⟩, hS.F ht⟩) hS.2.2 dX6_misplace_43
  · refine lv_aload_n hx hb dX6_misplace_16 rfl (lv_at hl 1 rfl) ?_
    refine lv_iload_n hx hb dX6_misplace_17 rfl (lv_at hl 0 rfl) ?_
    have hPc := hP.sub (ws' := [(o, .inr (4, [.int (nI 0), .ref aS, .ref aA, .ref aV, .int (nI n), .ref aB, .int ln, .int at_, .int wl, .ref aR, .int rm, .int ga, .int fi, .int se, .int ex, .long ha]))]) [0] rfl
    have hDc := hD.sub (ws' := [(o, .inr (4, [.int (nI 0), .ref aS, .ref aA, .ref aV, .int (nI n), .ref aB, .int ln, .int at_, .int wl, .ref aR, .int rm, .int ga, .int fi, .int se, .int ex, .long ha]))]) [0] (by decide) rfl
    have hFc := va_free (wc := [(o, .inr (4, [.int (nI 0), .ref aS, .ref aA, .ref aV, .int (nI n), .ref aB, .int ln, .int at_, .int wl, .ref aR, .int rm, .int ga, .int fi, .int se, .int ex, .long ha]))]) hD hS hA [0] rfl
    refine va_calli (va_runV (As := [.int (nI (cdMp S cn x y))]) (rest := []) ⟨hx, hb, hml, hown, hts⟩ (kX6_fails l dC dI cI cV cW H.size o 0 aS aA aV (nI n) aB ln at_ wl aR rm ga fi se ex ha (nI (cdMp S cn x y))) (cwV 1 hts gX6_misplace_X6_fails rfl rfl rfl hdX6_fails ⟨Nat.le_of_ble_eq_true rfl, Nat.le_of_ble_eq_true rfl⟩) (pW_V hK hP hPc hDc 0 4 rfl rfl rfl) rfl rfl hl.1 rfl (lv_room (Nat.le_of_ble_eq_true rfl)) dX6_misplace_18 ⟨Nat.zero_le _, Nat.zero_le _⟩) hS (fun q _ h => hFc q h) hFc (fun r_18 u_ t_ H1 locs ht_ hvm_ hw_ hB_ hz_ hk_ hS => ?_)
    obtain ⟨hP1, -, hD1⟩ := hB_
    rw [ht_] at hP1
    obtain ⟨hP, hD⟩ := va_join (wr := [(aS, .inl (cI, 96, .inl S)), (aV, .inl (cI, 576, .inl V))]) (w1 := [(o, .inr (4, [.int (nI (cdMp S cn x y)), .ref aS, .ref aA, .ref aV, .int (nI n), .ref aB, .int ln, .int at_, .int wl, .ref aR, .int rm, .int ga, .int fi, .int se, .int ex, .long ha]))]) hP hD [0] [1, 2] rfl rfl (by decide) (by decide) hk_ hFc hP1 hD1
    clear hP1 hD1 hPc hDc hFc hk_ hz_ hvm_ ht_
    generalize H1 = H at hP hS ⊢
    replace hP : va_P (dC, dI) vwCl [(o, .inr (4, [.int (nI (cdMp S cn x y)), .ref aS, .ref aA, .ref aV, .int (nI n), .ref aB, .int ln, .int at_, .int wl, .ref aR, .int rm, .int ga, .int fi, .int se, .int ex, .long ha])), (aS, .inl (cI, 96, .inl S)), (aV, .inl (cI, 576, .inl V))] H := hP.sub [2, 0, 1] rfl
    replace hD : va_D A [(o, .inr (4, [.int (nI (cdMp S cn x y)), .ref aS, .ref aA, .ref aV, .int (nI n), .ref aB, .int ln, .int at_, .int wl, .ref aR, .int rm, .int ga, .int fi, .int se, .int ex, .long ha])), (aS, .inl (cI, 96, .inl S)), (aV, .inl (cI, 576, .inl V))] := hD.sub [2, 0, 1] (by decide) rfl
    refine W.widen (k := 0) (n := 0) (Nat.le_refl 0) (Nat.le_refl 0) ?_
    have hw_ : r_18 = (nI 0) := hw_
    subst hw_
    have ec_r21_2_o_4 : (nI n) = (nI (if cdMp S cn x y = 0 then svN n else n)) := by first | rfl | (first | (simp [c_13] <;> rfl))
    have ec_r21_2_aS : S = if cdMp S cn x y = 0 then upd S (15 + 5 * (ix x) + 1) y else S := by first | rfl | (first | (simp [c_13] <;> rfl))
    have ec_r21_2_aV : V = if cdMp S cn x y = 0 then svV S V n else V := by first | rfl | (first | (simp [c_13] <;> rfl))
    have ew_r21_2 : ([(o, .inr (4, [.int (nI (cdMp S cn x y)), .ref aS, .ref aA, .ref aV, .int (nI n), .ref aB, .int ln, .int at_, .int wl, .ref aR, .int rm, .int ga, .int fi, .int se, .int ex, .long ha])), (aS, .inl (cI, 96, .inl S)), (aV, .inl (cI, 576, .inl V))] : va_W) = [(o, .inr (4, [.int (nI (cdMp S cn x y)), .ref aS, .ref aA, .ref aV, .int (nI (if cdMp S cn x y = 0 then svN n else n)), .ref aB, .int ln, .int at_, .int wl, .ref aR, .int rm, .int ga, .int fi, .int se, .int ex, .long ha])), (aS, .inl (cI, 96, .inl (if cdMp S cn x y = 0 then upd S (15 + 5 * (ix x) + 1) y else S))), (aV, .inl (cI, 576, .inl (if cdMp S cn x y = 0 then svV S V n else V)))] := (((congrArg (fun z_ => ([(o, .inr (4, [.int (nI (cdMp S cn x y)), .ref aS, .ref aA, .ref aV, .int z_, .ref aB, .int ln, .int at_, .int wl, .ref aR, .int rm, .int ga, .int fi, .int se, .int ex, .long ha])), (aS, .inl (cI, 96, .inl S)), (aV, .inl (cI, 576, .inl V))] : va_W)) ec_r21_2_o_4).trans (congrArg (fun z_ => ([(o, .inr (4, [.int (nI (cdMp S cn x y)), .ref aS, .ref aA, .ref aV, .int (nI (if cdMp S cn x y = 0 then svN n else n)), .ref aB, .int ln, .int at_, .int wl, .ref aR, .int rm, .int ga, .int fi, .int se, .int ex, .long ha])), (aS, .inl (cI, 96, .inl z_)), (aV, .inl (cI, 576, .inl V))] : va_W)) ec_r21_2_aS)).trans (congrArg (fun z_ => ([(o, .inr (4, [.int (nI (cdMp S cn x y)), .ref aS, .ref aA, .ref aV, .int (nI (if cdMp S cn x y = 0 then svN n else n)), .ref aB, .int ln, .int at_, .int wl, .ref aR, .int rm, .int ga, .int fi, .int se, .int ex, .long ha])), (aS, .inl (cI, 96, .inl (if cdMp S cn x y = 0 then upd S (15 + 5 * (ix x) + 1) y else S))), (aV, .inl (cI, 576, .inl z_))] : va_W)) ec_r21_2_aV))
    have hP9 := (w_cgP ew_r21_2 hP)
    have hD9 := (w_cgD ew_r21_2 hD)
    exact W.iret (v := (nI 0)) hx hb hr (fun t ht hW => ⟨⟨(nI 0), (), rfl, (show (nI 0) = (if cdMp S cn x y = 0 then gW S 1 (ix x) else 0) from by first | rfl | (first | (simp [c_13] <;> rfl))), by rw [ht]; exact hP9, va_K.moved hW.alike hK, hD9⟩, hS.F ht⟩) hS.2.2 dX6_misplace_21
set_option maxHeartbeats 4000000 in
set_option maxRecDepth 100000 in
theorem kX6_begins (l : Launch) (dC : Nat → ClassId) (dI : Nat → Nat → Nat) (cI cV cW : ClassId) (sz : Nat) (o : Nat) (th : Int32) (aS : Nat) (aA : Nat) (aV : Nat) (sm : Int32) (aB : Nat) (ln : Int32) (at_ : Int32) (wl : Int32) (aR : Nat) (rm : Int32) (ga : Int32) (fi : Int32) (se : Int32) (ex : Int32) (ha : Int64) (S : Nat → Int32) (cn : Nat) (hR : RO S cn) : Met l yX6_begins wsX6_begins ({ frames := 1, cells := 0, slots := 0, locals := 23 }) (pW (dC, dI) (tyS cI cV cW) sz [.ref o] [(o, .inr (4, [.int th, .ref aS, .ref aA, .ref aV, .int sm, .ref aB, .int ln, .int at_, .int wl, .ref aR, .int rm, .int ga, .int fi, .int se, .int ex, .long ha])), (aS, .inl (cI, 96, .inl S))]) (va_Qi (fun (r_ : Int32) (_ : Unit) => r_ = (sBg S cn)) (fun (_ : Unit) t => qB (dC, dI) (tyS cI cV cW) (va_A [(o, .inr (4, [.int th, .ref aS, .ref aA, .ref aV, .int sm, .ref aB, .int ln, .int at_, .int wl, .ref aR, .int rm, .int ga, .int fi, .int se, .int ex, .long ha])), (aS, .inl (cI, 96, .inl S))] sz) [(o, .inr (4, [.int th, .ref aS, .ref aA, .ref aV, .int sm, .ref aB, .int ln, .int at_, .int wl, .ref aR, .int rm, .int ga, .int fi, .int se, .int ex, .long ha])), (aS, .inl (cI, 96, .inl (fMon S cn)))] t) (va_A [(o, .inr (4, [.int th, .ref aS, .ref aA, .ref aV, .int sm, .ref aB, .int ln, .int at_, .int wl, .ref aR, .int rm, .int ga, .int fi, .int se, .int ex, .long ha])), (aS, .inl (cI, 96, .inl S))] sz)) 0 0 (va_A [(o, .inr (4, [.int th, .ref aS, .ref aA, .ref aV, .int sm, .ref aB, .int ln, .int at_, .int wl, .ref aR, .int rm, .int ga, .int fi, .int se, .int ex, .long ha])), (aS, .inl (cI, 96, .inl S))] sz) := by
  refine Met.ofW (cc := cX6_begins) (maxL := 3) (ret := (some .int)) (by decide) rfl ?_
  intro p e s m args below meth c s₁ B hml hv
  obtain ⟨rfl, hsz, hP, hK, hD0⟩ := hv
  have hx := B.exec
  have hb := B.bytes
  have hr := B.returns
  have hts := atoms_spec (ws := wsX6_begins) B.pre
  have hown : s.vm.findClass RX6 = some m.cls := findClass_of_methodNamed B.named
  have hlocks := B.notSynchronized
  subst hsz
  have hD := hD0.self (sz := s.heap.size)
  generalize hAe : va_A [(o, .inr (4, [.int th, .ref aS, .ref aA, .ref aV, .int sm, .ref aB, .int ln, .int at_, .int wl, .ref aR, .int rm, .int ga, .int fi, .int se, .int ex, .long ha])), (aS, .inl (cI, 96, .inl S))] s.heap.size = A at hD ⊢
  have hA : ∀ q : Nat, s.heap.size ≤ q → A q := fun q h => by rw [← hAe]; exact Or.inr h
  have hS : va_S A s.heap s.heap [] := va_S.rf
  refine w_gen hP hS (fun H locs hP hS => ?_)
  have hf7 := hts (.fieldLink RX6 7 "VaultShelvesModel" "s" "[I") (by decide +kernel)
  have hiX6 : ∀ w ∈ u_ws RX6 TX6 16, w ∈ wsX6_begins := by decide +kernel
  have hl := lv_entry ([.ref o]) (n := 3) (Nat.le_of_ble_eq_true rfl)
  rw [lg_entry_eq]
  generalize (lg_sl ([.ref o]) ++ List.replicate (3 - (lg_sl ([.ref o])).length) Slot.unset).toArray = ls at hl ⊢
  replace hl : lv_has ls 3 [(0, .ref o)] := hl
  have hc := hR.2.1
  refine lv_iconst (v := (nI 0)) hx hb dX6_begins_0 (by decide) ?_
  refine lv_istore_n (lv' := [(1, .int (nI 0)), (0, .ref o)]) hx hb dX6_begins_1 rfl hl (by decide) rfl (fun ls hl => ?_)
  refine lv_iconst (v := (nI 0)) hx hb dX6_begins_2 (by decide) ?_
  refine lv_istore_n (lv' := [(2, .int (nI 0)), (1, .int (nI 0)), (0, .ref o)]) hx hb dX6_begins_3 rfl hl (by decide) rfl (fun ls hl => ?_)
  have ec_i4_aS : S = fMon S 0 := by rfl
  have ew_i4 : ([(o, .inr (4, [.int th, .ref aS, .ref aA, .ref aV, .int sm, .ref aB, .int ln, .int at_, .int wl, .ref aR, .int rm, .int ga, .int fi, .int se, .int ex, .long ha])), (aS, .inl (cI, 96, .inl S))] : va_W) = [(o, .inr (4, [.int th, .ref aS, .ref aA, .ref aV, .int sm, .ref aB, .int ln, .int at_, .int wl, .ref aR, .int rm, .int ga, .int fi, .int se, .int ex, .long ha])), (aS, .inl (cI, 96, .inl (fMon S 0)))] := (congrArg (fun z_ => ([(o, .inr (4, [.int th, .ref aS, .ref aA, .ref aV, .int sm, .ref aB, .int ln, .int at_, .int wl, .ref aR, .int rm, .int ga, .int fi, .int se, .int ex, .long ha])), (aS, .inl (cI, 96, .inl z_))] : va_W)) ec_i4_aS)
  have el_i4_1 : (nI 0) = (sBg S 0) := by rfl
  have hI0 : (fun (i : Nat) ls H locs => (i ≤ cn) ∧ (va_P (dC, dI) vwCl [(o, .inr (4, [.int th, .ref aS, .ref aA, .ref aV, .int sm, .ref aB, .int ln, .int at_, .int wl, .ref aR, .int rm, .int ga, .int fi, .int se, .int ex, .long ha])), (aS, .inl (cI, 96, .inl (fMon S i)))] H) ∧ (va_D A [(o, .inr (4, [.int th, .ref aS, .ref aA, .ref aV, .int sm, .ref aB, .int ln, .int at_, .int wl, .ref aR, .int rm, .int ga, .int fi, .int se, .int ex, .long ha])), (aS, .inl (cI, 96, .inl (fMon S i)))]) ∧ (va_S A s.heap H locs) ∧ (lv_has ls 3 [(0, .ref o), (1, .int (sBg S i)), (2, .int (nI i))])) 0 ls H locs := ⟨by omega, (w_cgP ew_i4 hP), (w_cgD ew_i4 hD), hS, lv_cg (lv_sub hl [2, 1, 0] rfl) (congrArg (fun z_ => ([(0, .ref o), (1, .int z_), (2, .int (nI 0))] : List (Nat × Value))) el_i4_1)⟩
  clear hl hP hD hS
  revert ls
  revert locs
  revert H
  refine lp_H (fun (i : Nat) ls H locs => (i ≤ cn) ∧ (va_P (dC, dI) vwCl [(o, .inr (4, [.int th, .ref aS, .ref aA, .ref aV, .int sm, .ref aB, .int ln, .int at_, .int wl, .ref aR, .int rm, .int ga, .int fi, .int se, .int ex, .long ha])), (aS, .inl (cI, 96, .inl (fMon S i)))] H) ∧ (va_D A [(o, .inr (4, [.int th, .ref aS, .ref aA, .ref aV, .int sm, .ref aB, .int ln, .int at_, .int wl, .ref aR, .int rm, .int ga, .int fi, .int se, .int ex, .long ha])), (aS, .inl (cI, 96, .inl (fMon S i)))]) ∧ (va_S A s.heap H locs) ∧ (lv_has ls 3 [(0, .ref o), (1, .int (sBg S i)), (2, .int (nI i))])) (fun (i : Nat) => cn - i) 0 (fun q_ H locs ls hI ih4 => ?_)
  obtain ⟨i, rfl⟩ : ∃ z, z = q_ := ⟨_, rfl⟩
  obtain ⟨hi, hP, hD, hS, hl⟩ := hI
  refine lv_iload_n hx hb dX6_begins_4 rfl (lv_at hl 2 rfl) ?_
  refine lv_aload_n hx hb dX6_begins_5 rfl (lv_at hl 0 rfl) ?_
  refine va_get (D := (dC, dI)) (ci := 4) (v := .ref aS) (C := RX6) (T := TX6) (N := 16) hx hb hts hiX6 hown hK hP 0 rfl rfl 1 (by decide) hf7 (fun _ h9 => h9) rfl dX6_begins_6 ?_
  refine lv_iconst (v := (nI 0)) hx hb dX6_begins_9 (by decide) ?_
  refine n_iald hx hb hK hP 1 0 rfl rfl (show 0 < 96 from by omega) (by decide) dX6_begins_10 ?_
  refine lv_cgi (show ((fMon S i) 0) = (nI cn) from (by rw [fMon_lo S (by omega)]; exact hR.1)) ?_
  refine n_icmp_ge (tgt := 48) hx hb dX6_begins_11 (by decide) (by omega) (by omega) (fun c_11 => ?_) (fun c_11 => ?_)
  · obtain rfl : cn = i := by omega
    refine lv_iload_n hx hb dX6_begins_48 rfl (lv_at hl 1 rfl) ?_
    have hP9 := hP
    have hD9 := hD
    exact W.iret (v := (sBg S cn)) hx hb hr (fun t ht hW => ⟨⟨(sBg S cn), (), rfl, rfl, by rw [ht]; exact hP9, va_K.moved hW.alike hK, hD9⟩, hS.F ht⟩) hS.2.2 dX6_begins_49
  · refine lv_iload_n hx hb dX6_begins_14 rfl (lv_at hl 1 rfl) ?_
    refine lv_aload_n hx hb dX6_begins_15 rfl (lv_at hl 0 rfl) ?_
    refine lv_iload_n hx hb dX6_begins_16 rfl (lv_at hl 2 rfl) ?_
    refine lv_iconst (v := (nI 3)) hx hb dX6_begins_17 (by decide) ?_
    refine vp_callSi (W.runV (As := [.int (nI i), .int (nI 3)]) (rest := [.int (sBg S i)]) ⟨hx, hb, hml, hown, hts⟩ (kX6_of l dC dI cI cV cW o th aS aA aV sm aB ln at_ wl aR rm ga fi se ex ha (fMon S i) i 3 (by omega) (by omega)) (cwV 2 hts gX6_begins_X6_of rfl rfl rfl hdX6_of ⟨Nat.le_of_ble_eq_true rfl, Nat.le_of_ble_eq_true rfl⟩) (pR_V hK hP 0 4 rfl rfl rfl [0, 1] rfl) rfl rfl hl.1 rfl (lv_room (Nat.le_of_ble_eq_true rfl)) dX6_begins_18 ⟨Nat.zero_le _, Nat.zero_le _⟩) (fun r_18 hr_ => ?_)
    subst hr_
    refine lv_iadd hx hb dX6_begins_21 ?_
    refine lv_istore_n (lv' := [(1, .int ((sBg S i) + (gW (fMon S i) 3 i))), (0, .ref o), (2, .int (nI i))]) hx hb dX6_begins_22 rfl hl (by decide) rfl (fun ls hl => ?_)
    refine lv_aload_n hx hb dX6_begins_23 rfl (lv_at hl 1 rfl) ?_
    refine lv_iload_n hx hb dX6_begins_24 rfl (lv_at hl 2 rfl) ?_
    refine lv_iconst (v := (nI 4)) hx hb dX6_begins_25 (by decide) ?_
    refine lv_aload_n hx hb dX6_begins_26 rfl (lv_at hl 1 rfl) ?_
    refine lv_iload_n hx hb dX6_begins_27 rfl (lv_at hl 2 rfl) ?_
    refine lv_iconst (v := (nI 3)) hx hb dX6_begins_28 (by decide) ?_
    refine vp_callSi (W.runV (As := [.int (nI i), .int (nI 3)]) (rest := [.int (nI 4), .int (nI i), .ref o]) ⟨hx, hb, hml, hown, hts⟩ (kX6_of l dC dI cI cV cW o th aS aA aV sm aB ln at_ wl aR rm ga fi se ex ha (fMon S i) i 3 (by omega) (by omega)) (cwV 2 hts gX6_begins_X6_of rfl rfl rfl hdX6_of ⟨Nat.le_of_ble_eq_true rfl, Nat.le_of_ble_eq_true rfl⟩) (pR_V hK hP 0 4 rfl rfl rfl [0, 1] rfl) rfl rfl hl.1 rfl (lv_room (Nat.le_of_ble_eq_true rfl)) dX6_begins_29 ⟨Nat.zero_le _, Nat.zero_le _⟩) (fun r_29 hr_ => ?_)
    subst hr_
    have hPc := hP.sub (ws' := [(o, .inr (4, [.int th, .ref aS, .ref aA, .ref aV, .int sm, .ref aB, .int ln, .int at_, .int wl, .ref aR, .int rm, .int ga, .int fi, .int se, .int ex, .long ha])), (aS, .inl (cI, 96, .inl (fMon S i)))]) [0, 1] rfl
    have hDc := hD.sub (ws' := [(o, .inr (4, [.int th, .ref aS, .ref aA, .ref aV, .int sm, .ref aB, .int ln, .int at_, .int wl, .ref aR, .int rm, .int ga, .int fi, .int se, .int ex, .long ha])), (aS, .inl (cI, 96, .inl (fMon S i)))]) [0, 1] (by decide) rfl
    have hFc := va_free (wc := [(o, .inr (4, [.int th, .ref aS, .ref aA, .ref aV, .int sm, .ref aB, .int ln, .int at_, .int wl, .ref aR, .int rm, .int ga, .int fi, .int se, .int ex, .long ha])), (aS, .inl (cI, 96, .inl (fMon S i)))]) hD hS hA [0, 1] rfl
    refine va_callv (va_runV (As := [.int (nI i), .int (nI 4), .int (gW (fMon S i) 3 i)]) (rest := []) ⟨hx, hb, hml, hown, hts⟩ (kX6_lay l dC dI cI cV cW H.size o th aS aA aV sm aB ln at_ wl aR rm ga fi se ex ha (fMon S i) i 4 (gW (fMon S i) 3 i) (by omega) (by omega)) (cwV 3 hts gX6_begins_X6_lay rfl rfl rfl hdX6_lay ⟨Nat.le_of_ble_eq_true rfl, Nat.le_of_ble_eq_true rfl⟩) (pW_V hK hP hPc hDc 0 4 rfl rfl rfl) rfl rfl hl.1 rfl (lv_room (Nat.le_of_ble_eq_true rfl)) dX6_begins_32 ⟨Nat.zero_le _, Nat.zero_le _⟩) hS (fun q _ h => hFc q h) hFc (fun u_ t_ H1 locs ht_ hvm_ hw_ hB_ hz_ hk_ hS => ?_)
    obtain ⟨hP1, -, hD1⟩ := hB_
    rw [ht_] at hP1
    obtain ⟨hP, hD⟩ := va_join (wr := []) (w1 := [(o, .inr (4, [.int th, .ref aS, .ref aA, .ref aV, .int sm, .ref aB, .int ln, .int at_, .int wl, .ref aR, .int rm, .int ga, .int fi, .int se, .int ex, .long ha])), (aS, .inl (cI, 96, .inl (upd (fMon S i) (15 + (5 * i) + 4) (gW (fMon S i) 3 i))))]) hP hD [0, 1] [] rfl rfl (by decide) (by decide) hk_ hFc hP1 hD1
    clear hP1 hD1 hPc hDc hFc hk_ hz_ hvm_ ht_
    generalize H1 = H at hP hS ⊢
    replace hP : va_P (dC, dI) vwCl [(o, .inr (4, [.int th, .ref aS, .ref aA, .ref aV, .int sm, .ref aB, .int ln, .int at_, .int wl, .ref aR, .int rm, .int ga, .int fi, .int se, .int ex, .long ha])), (aS, .inl (cI, 96, .inl (upd (fMon S i) (15 + (5 * i) + 4) (gW (fMon S i) 3 i))))] H := hP
    replace hD : va_D A [(o, .inr (4, [.int th, .ref aS, .ref aA, .ref aV, .int sm, .ref aB, .int ln, .int at_, .int wl, .ref aR, .int rm, .int ga, .int fi, .int se, .int ex, .long ha])), (aS, .inl (cI, 96, .inl (upd (fMon S i) (15 + (5 * i) + 4) (gW (fMon S i) 3 i))))] := hD
    refine W.widen (k := 0) (n := 0) (Nat.le_refl 0) (Nat.le_refl 0) ?_
    refine lv_aload_n hx hb dX6_begins_35 rfl (lv_at hl 1 rfl) ?_
    refine lv_iload_n hx hb dX6_begins_36 rfl (lv_at hl 2 rfl) ?_
    refine lv_iconst (v := (nI 3)) hx hb dX6_begins_37 (by decide) ?_
    refine lv_iconst (v := (nI 0)) hx hb dX6_begins_38 (by decide) ?_
    have hPc := hP.sub (ws' := [(o, .inr (4, [.int th, .ref aS, .ref aA, .ref aV, .int sm, .ref aB, .int ln, .int at_, .int wl, .ref aR, .int rm, .int ga, .int fi, .int se, .int ex, .long ha])), (aS, .inl (cI, 96, .inl (upd (fMon S i) (15 + (5 * i) + 4) (gW (fMon S i) 3 i))))]) [0, 1] rfl
    have hDc := hD.sub (ws' := [(o, .inr (4, [.int th, .ref aS, .ref aA, .ref aV, .int sm, .ref aB, .int ln, .int at_, .int wl, .ref aR, .int rm, .int ga, .int fi, .int se, .int ex, .long ha])), (aS, .inl (cI, 96, .inl (upd (fMon S i) (15 + (5 * i) + 4) (gW (fMon S i) 3 i))))]) [0, 1] (by decide) rfl
    have hFc := va_free (wc := [(o, .inr (4, [.int th, .ref aS, .ref aA, .ref aV, .int sm, .ref aB, .int ln, .int at_, .int wl, .ref aR, .int rm, .int ga, .int fi, .int se, .int ex, .long ha])), (aS, .inl (cI, 96, .inl (upd (fMon S i) (15 + (5 * i) + 4) (gW (fMon S i) 3 i))))]) hD hS hA [0, 1] rfl
    refine va_callv (va_runV (As := [.int (nI i), .int (nI 3), .int (nI 0)]) (rest := []) ⟨hx, hb, hml, hown, hts⟩ (kX6_lay l dC dI cI cV cW H.size o th aS aA aV sm aB ln at_ wl aR rm ga fi se ex ha (upd (fMon S i) (15 + (5 * i) + 4) (gW (fMon S i) 3 i)) i 3 0 (by omega) (by omega)) (cwV 3 hts gX6_begins_X6_lay rfl rfl rfl hdX6_lay ⟨Nat.le_of_ble_eq_true rfl, Nat.le_of_ble_eq_true rfl⟩) (pW_V hK hP hPc hDc 0 4 rfl rfl rfl) rfl rfl hl.1 rfl (lv_room (Nat.le_of_ble_eq_true rfl)) dX6_begins_39 ⟨Nat.zero_le _, Nat.zero_le _⟩) hS (fun q _ h => hFc q h) hFc (fun u_ t_ H1 locs ht_ hvm_ hw_ hB_ hz_ hk_ hS => ?_)
    obtain ⟨hP1, -, hD1⟩ := hB_
    rw [ht_] at hP1
    obtain ⟨hP, hD⟩ := va_join (wr := []) (w1 := [(o, .inr (4, [.int th, .ref aS, .ref aA, .ref aV, .int sm, .ref aB, .int ln, .int at_, .int wl, .ref aR, .int rm, .int ga, .int fi, .int se, .int ex, .long ha])), (aS, .inl (cI, 96, .inl (upd (upd (fMon S i) (15 + (5 * i) + 4) (gW (fMon S i) 3 i)) (15 + (5 * i) + 3) 0)))]) hP hD [0, 1] [] rfl rfl (by decide) (by decide) hk_ hFc hP1 hD1
    clear hP1 hD1 hPc hDc hFc hk_ hz_ hvm_ ht_
    generalize H1 = H at hP hS ⊢
    replace hP : va_P (dC, dI) vwCl [(o, .inr (4, [.int th, .ref aS, .ref aA, .ref aV, .int sm, .ref aB, .int ln, .int at_, .int wl, .ref aR, .int rm, .int ga, .int fi, .int se, .int ex, .long ha])), (aS, .inl (cI, 96, .inl (upd (upd (fMon S i) (15 + (5 * i) + 4) (gW (fMon S i) 3 i)) (15 + (5 * i) + 3) 0)))] H := hP
    replace hD : va_D A [(o, .inr (4, [.int th, .ref aS, .ref aA, .ref aV, .int sm, .ref aB, .int ln, .int at_, .int wl, .ref aR, .int rm, .int ga, .int fi, .int se, .int ex, .long ha])), (aS, .inl (cI, 96, .inl (upd (upd (fMon S i) (15 + (5 * i) + 4) (gW (fMon S i) 3 i)) (15 + (5 * i) + 3) 0)))] := hD
    refine W.widen (k := 0) (n := 0) (Nat.le_refl 0) (Nat.le_refl 0) ?_
    refine lv_iinc (v := (nI (i + 1))) (lv' := [(2, .int (nI (i + 1))), (1, .int ((sBg S i) + (gW (fMon S i) 3 i))), (0, .ref o)]) hx hb dX6_begins_42 hl (k := 2) rfl (n_inc _ 1) (by decide) rfl (fun ls hl => ?_)
    refine lv_goto (tgt := 4) hx hb dX6_begins_45 (by decide) ?_
    have ec_b4_2_aS : upd (upd (fMon S i) (15 + (5 * i) + 4) (gW (fMon S i) 3 i)) (15 + (5 * i) + 3) 0 = fMon S (i + 1) := by rfl
    have ew_b4_2 : ([(o, .inr (4, [.int th, .ref aS, .ref aA, .ref aV, .int sm, .ref aB, .int ln, .int at_, .int wl, .ref aR, .int rm, .int ga, .int fi, .int se, .int ex, .long ha])), (aS, .inl (cI, 96, .inl (upd (upd (fMon S i) (15 + (5 * i) + 4) (gW (fMon S i) 3 i)) (15 + (5 * i) + 3) 0)))] : va_W) = [(o, .inr (4, [.int th, .ref aS, .ref aA, .ref aV, .int sm, .ref aB, .int ln, .int at_, .int wl, .ref aR, .int rm, .int ga, .int fi, .int se, .int ex, .long ha])), (aS, .inl (cI, 96, .inl (fMon S (i + 1))))] := (congrArg (fun z_ => ([(o, .inr (4, [.int th, .ref aS, .ref aA, .ref aV, .int sm, .ref aB, .int ln, .int at_, .int wl, .ref aR, .int rm, .int ga, .int fi, .int se, .int ex, .long ha])), (aS, .inl (cI, 96, .inl z_))] : va_W)) ec_b4_2_aS)
    have el_b4_2_1 : ((sBg S i) + (gW (fMon S i) 3 i)) = (sBg S (i + 1)) := by rfl
    exact ih4 (i + 1) H locs ls ⟨by omega, (w_cgP ew_b4_2 hP), (w_cgD ew_b4_2 hD), hS, lv_cg (lv_sub hl [2, 1, 0] rfl) (congrArg (fun z_ => ([(0, .ref o), (1, .int z_), (2, .int (nI (i + 1)))] : List (Nat × Value))) el_b4_2_1)⟩ (by first | omega | (dsimp only; omega))
theorem hdX6_begins : yX6_begins.cls = RX6 ∧ yX6_begins.cls ≠ "java/lang/invoke/MethodHandle" ∧ yX6_begins.cls ≠ "java/lang/invoke/VarHandle" ∧ (parseMethodDescriptor yX6_begins.desc).map (fun d => d.parameters.length) = some 0 := by decide +kernel
set_option maxHeartbeats 4000000 in
set_option maxRecDepth 100000 in
theorem kX6_month (l : Launch) (dC : Nat → ClassId) (dI : Nat → Nat → Nat) (cI cV cW : ClassId) (sz : Nat) (o : Nat) (th : Int32) (aS : Nat) (aA : Nat) (aV : Nat) (aB : Nat) (ln : Int32) (at_ : Int32) (wl : Int32) (aR : Nat) (rm : Int32) (ga : Int32) (fi : Int32) (se : Int32) (ex : Int32) (ha : Int64) (S : Nat → Int32) (cn : Nat) (V : Nat → Int32) (n : Nat) (hR : RO S cn) (hn : n ≤ 6) : Met l yX6_month wsX6_month ({ frames := 2, cells := 0, slots := 0, locals := 45 }) (pW (dC, dI) (tyS cI cV cW) sz [.ref o] [(o, .inr (4, [.int th, .ref aS, .ref aA, .ref aV, .int (nI n), .ref aB, .int ln, .int at_, .int wl, .ref aR, .int rm, .int ga, .int fi, .int se, .int ex, .long ha])), (aS, .inl (cI, 96, .inl S)), (aV, .inl (cI, 576, .inl V))]) (va_Qi (fun (r_ : Int32) (_ : Unit) => r_ = (sBg S cn)) (fun (_ : Unit) t => qB (dC, dI) (tyS cI cV cW) (va_A [(o, .inr (4, [.int th, .ref aS, .ref aA, .ref aV, .int (nI n), .ref aB, .int ln, .int at_, .int wl, .ref aR, .int rm, .int ga, .int fi, .int se, .int ex, .long ha])), (aS, .inl (cI, 96, .inl S)), (aV, .inl (cI, 576, .inl V))] sz) [(o, .inr (4, [.int (nI 0), .ref aS, .ref aA, .ref aV, .int (nI (svN n)), .ref aB, .int ln, .int at_, .int wl, .ref aR, .int rm, .int ga, .int fi, .int se, .int ex, .long ha])), (aS, .inl (cI, 96, .inl (fMon S cn))), (aV, .inl (cI, 576, .inl (svV S V n)))] t) (va_A [(o, .inr (4, [.int th, .ref aS, .ref aA, .ref aV, .int (nI n), .ref aB, .int ln, .int at_, .int wl, .ref aR, .int rm, .int ga, .int fi, .int se, .int ex, .long ha])), (aS, .inl (cI, 96, .inl S)), (aV, .inl (cI, 576, .inl V))] sz)) 0 0 (va_A [(o, .inr (4, [.int th, .ref aS, .ref aA, .ref aV, .int (nI n), .ref aB, .int ln, .int at_, .int wl, .ref aR, .int rm, .int ga, .int fi, .int se, .int ex, .long ha])), (aS, .inl (cI, 96, .inl S)), (aV, .inl (cI, 576, .inl V))] sz) := by
  refine Met.ofW (cc := cX6_month) (maxL := 1) (ret := (some .int)) (by decide) rfl ?_
  intro p e s m args below meth c s₁ B hml hv
  obtain ⟨rfl, hsz, hP, hK, hD0⟩ := hv
  have hx := B.exec
  have hb := B.bytes
  have hr := B.returns
  have hts := atoms_spec (ws := wsX6_month) B.pre
  have hown : s.vm.findClass RX6 = some m.cls := findClass_of_methodNamed B.named
  have hlocks := B.notSynchronized
  subst hsz
  have hD := hD0.self (sz := s.heap.size)
  generalize hAe : va_A [(o, .inr (4, [.int th, .ref aS, .ref aA, .ref aV, .int (nI n), .ref aB, .int ln, .int at_, .int wl, .ref aR, .int rm, .int ga, .int fi, .int se, .int ex, .long ha])), (aS, .inl (cI, 96, .inl S)), (aV, .inl (cI, 576, .inl V))] s.heap.size = A at hD ⊢
  have hA : ∀ q : Nat, s.heap.size ≤ q → A q := fun q h => by rw [← hAe]; exact Or.inr h
  have hS : va_S A s.heap s.heap [] := va_S.rf
  refine w_gen hP hS (fun H locs hP hS => ?_)
  have hf25 := hts (.fieldLink RX6 25 "VaultShelvesModel" "thrown" "I") (by decide +kernel)
  have hiX6 : ∀ w ∈ u_ws RX6 TX6 16, w ∈ wsX6_month := by decide +kernel
  have hl := lv_entry ([.ref o]) (n := 1) (Nat.le_of_ble_eq_true rfl)
  rw [lg_entry_eq]
  generalize (lg_sl ([.ref o]) ++ List.replicate (1 - (lg_sl ([.ref o])).length) Slot.unset).toArray = ls at hl ⊢
  replace hl : lv_has ls 1 [(0, .ref o)] := hl
  have hc := hR.2.1
  refine lv_aload_n hx hb dX6_month_0 rfl (lv_at hl 0 rfl) ?_
  refine lv_iconst (v := (nI 0)) hx hb dX6_month_1 (by decide) ?_
  refine va_put (D := (dC, dI)) (ci := 4) (v := .int (nI 0)) (ty := .int) (C := RX6) (T := TX6) (N := 16) hx hb hts hiX6 tyX6 tyX6_ok nmX6 hown hK hP hD hS 0 rfl rfl 0 (by decide) hf25 (fun _ h9 => h9) rfl (by decide +kernel) rfl rfl (Nat.le_of_ble_eq_true rfl) dX6_month_2 (fun H locs hP hD hS => ?_)
  replace hP : va_P (dC, dI) vwCl [(o, .inr (4, [.int (nI 0), .ref aS, .ref aA, .ref aV, .int (nI n), .ref aB, .int ln, .int at_, .int wl, .ref aR, .int rm, .int ga, .int fi, .int se, .int ex, .long ha])), (aS, .inl (cI, 96, .inl S)), (aV, .inl (cI, 576, .inl V))] H := hP
  replace hD : va_D A [(o, .inr (4, [.int (nI 0), .ref aS, .ref aA, .ref aV, .int (nI n), .ref aB, .int ln, .int at_, .int wl, .ref aR, .int rm, .int ga, .int fi, .int se, .int ex, .long ha])), (aS, .inl (cI, 96, .inl S)), (aV, .inl (cI, 576, .inl V))] := hD
  refine lv_aload_n hx hb dX6_month_5 rfl (lv_at hl 0 rfl) ?_
  have hPc := hP.sub (ws' := [(o, .inr (4, [.int (nI 0), .ref aS, .ref aA, .ref aV, .int (nI n), .ref aB, .int ln, .int at_, .int wl, .ref aR, .int rm, .int ga, .int fi, .int se, .int ex, .long ha])), (aS, .inl (cI, 96, .inl S)), (aV, .inl (cI, 576, .inl V))]) [0, 1, 2] rfl
  have hDc := hD.sub (ws' := [(o, .inr (4, [.int (nI 0), .ref aS, .ref aA, .ref aV, .int (nI n), .ref aB, .int ln, .int at_, .int wl, .ref aR, .int rm, .int ga, .int fi, .int se, .int ex, .long ha])), (aS, .inl (cI, 96, .inl S)), (aV, .inl (cI, 576, .inl V))]) [0, 1, 2] (by decide) rfl
  have hFc := va_free (wc := [(o, .inr (4, [.int (nI 0), .ref aS, .ref aA, .ref aV, .int (nI n), .ref aB, .int ln, .int at_, .int wl, .ref aR, .int rm, .int ga, .int fi, .int se, .int ex, .long ha])), (aS, .inl (cI, 96, .inl S)), (aV, .inl (cI, 576, .inl V))]) hD hS hA [0, 1, 2] rfl
  refine va_callv (va_runV (As := []) (rest := []) ⟨hx, hb, hml, hown, hts⟩ (kX6_saves l dC dI cI cV cW H.size o 0 aS aA aV aB ln at_ wl aR rm ga fi se ex ha S V n (hn)) (cwV 0 hts gX6_month_X6_saves rfl rfl rfl hdX6_saves ⟨Nat.le_of_ble_eq_true rfl, Nat.le_of_ble_eq_true rfl⟩) (pW_V hK hP hPc hDc 0 4 rfl rfl rfl) rfl rfl hl.1 rfl (lv_room (Nat.le_of_ble_eq_true rfl)) dX6_month_6 ⟨Nat.zero_le _, Nat.zero_le _⟩) hS (fun q _ h => hFc q h) hFc (fun u_ t_ H1 locs ht_ hvm_ hw_ hB_ hz_ hk_ hS => ?_)
  obtain ⟨hP1, -, hD1⟩ := hB_
  rw [ht_] at hP1
  obtain ⟨hP, hD⟩ := va_join (wr := []) (w1 := [(o, .inr (4, [.int (nI 0), .ref aS, .ref aA, .ref aV, .int (nI (svN n)), .ref aB, .int ln, .int at_, .int wl, .ref aR, .int rm, .int ga, .int fi, .int se, .int ex, .long ha])), (aS, .inl (cI, 96, .inl S)), (aV, .inl (cI, 576, .inl (svV S V n)))]) hP hD [0, 1, 2] [] rfl rfl (by decide) (by decide) hk_ hFc hP1 hD1
  clear hP1 hD1 hPc hDc hFc hk_ hz_ hvm_ ht_
  generalize H1 = H at hP hS ⊢
  replace hP : va_P (dC, dI) vwCl [(o, .inr (4, [.int (nI 0), .ref aS, .ref aA, .ref aV, .int (nI (svN n)), .ref aB, .int ln, .int at_, .int wl, .ref aR, .int rm, .int ga, .int fi, .int se, .int ex, .long ha])), (aS, .inl (cI, 96, .inl S)), (aV, .inl (cI, 576, .inl (svV S V n)))] H := hP
  replace hD : va_D A [(o, .inr (4, [.int (nI 0), .ref aS, .ref aA, .ref aV, .int (nI (svN n)), .ref aB, .int ln, .int at_, .int wl, .ref aR, .int rm, .int ga, .int fi, .int se, .int ex, .long ha])), (aS, .inl (cI, 96, .inl S)), (aV, .inl (cI, 576, .inl (svV S V n)))] := hD
  refine W.widen (k := 0) (n := 0) (Nat.le_refl 0) (Nat.le_refl 0) ?_
  refine lv_aload_n hx hb dX6_month_9 rfl (lv_at hl 0 rfl) ?_
  have hPc := hP.sub (ws' := [(o, .inr (4, [.int (nI 0), .ref aS, .ref aA, .ref aV, .int (nI (svN n)), .ref aB, .int ln, .int at_, .int wl, .ref aR, .int rm, .int ga, .int fi, .int se, .int ex, .long ha])), (aS, .inl (cI, 96, .inl S))]) [0, 1] rfl
  have hDc := hD.sub (ws' := [(o, .inr (4, [.int (nI 0), .ref aS, .ref aA, .ref aV, .int (nI (svN n)), .ref aB, .int ln, .int at_, .int wl, .ref aR, .int rm, .int ga, .int fi, .int se, .int ex, .long ha])), (aS, .inl (cI, 96, .inl S))]) [0, 1] (by decide) rfl
  have hFc := va_free (wc := [(o, .inr (4, [.int (nI 0), .ref aS, .ref aA, .ref aV, .int (nI (svN n)), .ref aB, .int ln, .int at_, .int wl, .ref aR, .int rm, .int ga, .int fi, .int se, .int ex, .long ha])), (aS, .inl (cI, 96, .inl S))]) hD hS hA [0, 1] rfl
  refine va_calli (va_runV (As := []) (rest := []) ⟨hx, hb, hml, hown, hts⟩ (kX6_begins l dC dI cI cV cW H.size o 0 aS aA aV (nI (svN n)) aB ln at_ wl aR rm ga fi se ex ha S cn (hR)) (cwV 0 hts gX6_month_X6_begins rfl rfl rfl hdX6_begins ⟨Nat.le_of_ble_eq_true rfl, Nat.le_of_ble_eq_true rfl⟩) (pW_V hK hP hPc hDc 0 4 rfl rfl rfl) rfl rfl hl.1 rfl (lv_room (Nat.le_of_ble_eq_true rfl)) dX6_month_10 ⟨Nat.zero_le _, Nat.zero_le _⟩) hS (fun q _ h => hFc q h) hFc (fun r_10 u_ t_ H1 locs ht_ hvm_ hw_ hB_ hz_ hk_ hS => ?_)
  obtain ⟨hP1, -, hD1⟩ := hB_
  rw [ht_] at hP1
  obtain ⟨hP, hD⟩ := va_join (wr := [(aV, .inl (cI, 576, .inl (svV S V n)))]) (w1 := [(o, .inr (4, [.int (nI 0), .ref aS, .ref aA, .ref aV, .int (nI (svN n)), .ref aB, .int ln, .int at_, .int wl, .ref aR, .int rm, .int ga, .int fi, .int se, .int ex, .long ha])), (aS, .inl (cI, 96, .inl (fMon S cn)))]) hP hD [0, 1] [2] rfl rfl (by decide) (by decide) hk_ hFc hP1 hD1
  clear hP1 hD1 hPc hDc hFc hk_ hz_ hvm_ ht_
  generalize H1 = H at hP hS ⊢
  replace hP : va_P (dC, dI) vwCl [(o, .inr (4, [.int (nI 0), .ref aS, .ref aA, .ref aV, .int (nI (svN n)), .ref aB, .int ln, .int at_, .int wl, .ref aR, .int rm, .int ga, .int fi, .int se, .int ex, .long ha])), (aS, .inl (cI, 96, .inl (fMon S cn))), (aV, .inl (cI, 576, .inl (svV S V n)))] H := hP.sub [1, 2, 0] rfl
  replace hD : va_D A [(o, .inr (4, [.int (nI 0), .ref aS, .ref aA, .ref aV, .int (nI (svN n)), .ref aB, .int ln, .int at_, .int wl, .ref aR, .int rm, .int ga, .int fi, .int se, .int ex, .long ha])), (aS, .inl (cI, 96, .inl (fMon S cn))), (aV, .inl (cI, 576, .inl (svV S V n)))] := hD.sub [1, 2, 0] (by decide) rfl
  refine W.widen (k := 0) (n := 0) (Nat.le_refl 0) (Nat.le_refl 0) ?_
  have hw_ : r_10 = (sBg S cn) := hw_
  subst hw_
  have hP9 := hP
  have hD9 := hD
  exact W.iret (v := (sBg S cn)) hx hb hr (fun t ht hW => ⟨⟨(sBg S cn), (), rfl, rfl, by rw [ht]; exact hP9, va_K.moved hW.alike hK, hD9⟩, hS.F ht⟩) hS.2.2 dX6_month_13
theorem hdX6_misplacedMany : yX6_misplacedMany.cls = RX6 ∧ yX6_misplacedMany.cls ≠ "java/lang/invoke/MethodHandle" ∧ yX6_misplacedMany.cls ≠ "java/lang/invoke/VarHandle" ∧ (parseMethodDescriptor yX6_misplacedMany.desc).map (fun d => d.parameters.length) = some 0 := by decide +kernel
set_option maxHeartbeats 4000000 in
set_option maxRecDepth 100000 in
theorem kX6_misplaced (l : Launch) (dC : Nat → ClassId) (dI : Nat → Nat → Nat) (cI cV cW : ClassId) (sz : Nat) (o : Nat) (th : Int32) (aS : Nat) (aA : Nat) (aV : Nat) (sm : Int32) (aB : Nat) (ln : Int32) (at_ : Int32) (wl : Int32) (aR : Nat) (rm : Int32) (ga : Int32) (fi : Int32) (se : Int32) (ex : Int32) (ha : Int64) (S : Nat → Int32) (cn : Nat) (hR : RO S cn) : Met l yX6_misplaced wsX6_misplaced ({ frames := 3, cells := 0, slots := 0, locals := 65 }) (pW (dC, dI) (tyS cI cV cW) sz [.ref o] [(o, .inr (4, [.int th, .ref aS, .ref aA, .ref aV, .int sm, .ref aB, .int ln, .int at_, .int wl, .ref aR, .int rm, .int ga, .int fi, .int se, .int ex, .long ha])), (aS, .inl (cI, 96, .inl S))]) (va_Qi (fun (r_ : Int32) (_ : Unit) => r_ = (sMm (gW S 1) (gW S 2) cn)) (fun (_ : Unit) t => qB (dC, dI) (tyS cI cV cW) (va_A [(o, .inr (4, [.int th, .ref aS, .ref aA, .ref aV, .int sm, .ref aB, .int ln, .int at_, .int wl, .ref aR, .int rm, .int ga, .int fi, .int se, .int ex, .long ha])), (aS, .inl (cI, 96, .inl S))] sz) [(o, .inr (4, [.int (nI 0), .ref aS, .ref aA, .ref aV, .int sm, .ref aB, .int ln, .int at_, .int wl, .ref aR, .int rm, .int ga, .int fi, .int se, .int ex, .long ha])), (aS, .inl (cI, 96, .inl S))] t) (va_A [(o, .inr (4, [.int th, .ref aS, .ref aA, .ref aV, .int sm, .ref aB, .int ln, .int at_, .int wl, .ref aR, .int rm, .int ga, .int fi, .int se, .int ex, .long ha])), (aS, .inl (cI, 96, .inl S))] sz)) 0 0 (va_A [(o, .inr (4, [.int th, .ref aS, .ref aA, .ref aV, .int sm, .ref aB, .int ln, .int at_, .int wl, .ref aR, .int rm, .int ga, .int fi, .int se, .int ex, .long ha])), (aS, .inl (cI, 96, .inl S))] sz) := by
  refine Met.ofW (cc := cX6_misplaced) (maxL := 1) (ret := (some .int)) (by decide) rfl ?_
  intro p e s m args below meth c s₁ B hml hv
  obtain ⟨rfl, hsz, hP, hK, hD0⟩ := hv
  have hx := B.exec
  have hb := B.bytes
  have hr := B.returns
  have hts := atoms_spec (ws := wsX6_misplaced) B.pre
  have hown : s.vm.findClass RX6 = some m.cls := findClass_of_methodNamed B.named
  have hlocks := B.notSynchronized
  subst hsz
  have hD := hD0.self (sz := s.heap.size)
  generalize hAe : va_A [(o, .inr (4, [.int th, .ref aS, .ref aA, .ref aV, .int sm, .ref aB, .int ln, .int at_, .int wl, .ref aR, .int rm, .int ga, .int fi, .int se, .int ex, .long ha])), (aS, .inl (cI, 96, .inl S))] s.heap.size = A at hD ⊢
  have hA : ∀ q : Nat, s.heap.size ≤ q → A q := fun q h => by rw [← hAe]; exact Or.inr h
  have hS : va_S A s.heap s.heap [] := va_S.rf
  refine w_gen hP hS (fun H locs hP hS => ?_)
  have hf25 := hts (.fieldLink RX6 25 "VaultShelvesModel" "thrown" "I") (by decide +kernel)
  have hiX6 : ∀ w ∈ u_ws RX6 TX6 16, w ∈ wsX6_misplaced := by decide +kernel
  have hl := lv_entry ([.ref o]) (n := 1) (Nat.le_of_ble_eq_true rfl)
  rw [lg_entry_eq]
  generalize (lg_sl ([.ref o]) ++ List.replicate (1 - (lg_sl ([.ref o])).length) Slot.unset).toArray = ls at hl ⊢
  replace hl : lv_has ls 1 [(0, .ref o)] := hl
  refine lv_aload_n hx hb dX6_misplaced_0 rfl (lv_at hl 0 rfl) ?_
  refine lv_iconst (v := (nI 0)) hx hb dX6_misplaced_1 (by decide) ?_
  refine va_put (D := (dC, dI)) (ci := 4) (v := .int (nI 0)) (ty := .int) (C := RX6) (T := TX6) (N := 16) hx hb hts hiX6 tyX6 tyX6_ok nmX6 hown hK hP hD hS 0 rfl rfl 0 (by decide) hf25 (fun _ h9 => h9) rfl (by decide +kernel) rfl rfl (Nat.le_of_ble_eq_true rfl) dX6_misplaced_2 (fun H locs hP hD hS => ?_)
  replace hP : va_P (dC, dI) vwCl [(o, .inr (4, [.int (nI 0), .ref aS, .ref aA, .ref aV, .int sm, .ref aB, .int ln, .int at_, .int wl, .ref aR, .int rm, .int ga, .int fi, .int se, .int ex, .long ha])), (aS, .inl (cI, 96, .inl S))] H := hP
  replace hD : va_D A [(o, .inr (4, [.int (nI 0), .ref aS, .ref aA, .ref aV, .int sm, .ref aB, .int ln, .int at_, .int wl, .ref aR, .int rm, .int ga, .int fi, .int se, .int ex, .long ha])), (aS, .inl (cI, 96, .inl S))] := hD
  refine lv_aload_n hx hb dX6_misplaced_5 rfl (lv_at hl 0 rfl) ?_
  refine vp_callSi (W.runV (As := []) (rest := []) ⟨hx, hb, hml, hown, hts⟩ (kX6_misplacedMany l dC dI cI cV cW o 0 aS aA aV sm aB ln at_ wl aR rm ga fi se ex ha S cn (hR)) (cwV 0 hts gX6_misplaced_X6_misplacedMany rfl rfl rfl hdX6_misplacedMany ⟨Nat.le_of_ble_eq_true rfl, Nat.le_of_ble_eq_true rfl⟩) (pR_V hK hP 0 4 rfl rfl rfl [0, 1] rfl) rfl rfl hl.1 rfl (lv_room (Nat.le_of_ble_eq_true rfl)) dX6_misplaced_6 ⟨Nat.zero_le _, Nat.zero_le _⟩) (fun r_6 hr_ => ?_)
  subst hr_
  have hP9 := hP
  have hD9 := hD
  exact W.iret (v := (sMm (gW S 1) (gW S 2) cn)) hx hb hr (fun t ht hW => ⟨⟨(sMm (gW S 1) (gW S 2) cn), (), rfl, rfl, by rw [ht]; exact hP9, va_K.moved hW.alike hK, hD9⟩, hS.F ht⟩) hS.2.2 dX6_misplaced_9
set_option maxHeartbeats 4000000 in
set_option maxRecDepth 100000 in
theorem kX6_records (l : Launch) (dC : Nat → ClassId) (dI : Nat → Nat → Nat) (cI cV cW : ClassId) (sz : Nat) (o : Nat) (th : Int32) (aS : Nat) (aA : Nat) (aV : Nat) (sm : Int32) (aB : Nat) (ln : Int32) (at_ : Int32) (wl : Int32) (aR : Nat) (rm : Int32) (ga : Int32) (fi : Int32) (se : Int32) (ex : Int32) (ha : Int64) (S : Nat → Int32)  : Met l yX6_records wsX6_records ({ frames := 0, cells := 0, slots := 0, locals := 0 }) (pW (dC, dI) (tyS cI cV cW) sz [.ref o] [(o, .inr (4, [.int th, .ref aS, .ref aA, .ref aV, .int sm, .ref aB, .int ln, .int at_, .int wl, .ref aR, .int rm, .int ga, .int fi, .int se, .int ex, .long ha])), (aS, .inl (cI, 96, .inl S))]) (va_Qi (fun (r_ : Int32) (_ : Unit) => r_ = (S 0)) (fun (_ : Unit) t => qB (dC, dI) (tyS cI cV cW) (va_A [(o, .inr (4, [.int th, .ref aS, .ref aA, .ref aV, .int sm, .ref aB, .int ln, .int at_, .int wl, .ref aR, .int rm, .int ga, .int fi, .int se, .int ex, .long ha])), (aS, .inl (cI, 96, .inl S))] sz) [(o, .inr (4, [.int (nI 0), .ref aS, .ref aA, .ref aV, .int sm, .ref aB, .int ln, .int at_, .int wl, .ref aR, .int rm, .int ga, .int fi, .int se, .int ex, .long ha])), (aS, .inl (cI, 96, .inl S))] t) (va_A [(o, .inr (4, [.int th, .ref aS, .ref aA, .ref aV, .int sm, .ref aB, .int ln, .int at_, .int wl, .ref aR, .int rm, .int ga, .int fi, .int se, .int ex, .long ha])), (aS, .inl (cI, 96, .inl S))] sz)) 0 0 (va_A [(o, .inr (4, [.int th, .ref aS, .ref aA, .ref aV, .int sm, .ref aB, .int ln, .int at_, .int wl, .ref aR, .int rm, .int ga, .int fi, .int se, .int ex, .long ha])), (aS, .inl (cI, 96, .inl S))] sz) := by
  refine Met.ofW (cc := cX6_records) (maxL := 1) (ret := (some .int)) (by decide) rfl ?_
  intro p e s m args below meth c s₁ B hml hv
  obtain ⟨rfl, hsz, hP, hK, hD0⟩ := hv
  have hx := B.exec
  have hb := B.bytes
  have hr := B.returns
  have hts := atoms_spec (ws := wsX6_records) B.pre
  have hown : s.vm.findClass RX6 = some m.cls := findClass_of_methodNamed B.named
  have hlocks := B.notSynchronized
  subst hsz
  have hD := hD0.self (sz := s.heap.size)
  generalize hAe : va_A [(o, .inr (4, [.int th, .ref aS, .ref aA, .ref aV, .int sm, .ref aB, .int ln, .int at_, .int wl, .ref aR, .int rm, .int ga, .int fi, .int se, .int ex, .long ha])), (aS, .inl (cI, 96, .inl S))] s.heap.size = A at hD ⊢
  have hA : ∀ q : Nat, s.heap.size ≤ q → A q := fun q h => by rw [← hAe]; exact Or.inr h
  have hS : va_S A s.heap s.heap [] := va_S.rf
  refine w_gen hP hS (fun H locs hP hS => ?_)
  have hf25 := hts (.fieldLink RX6 25 "VaultShelvesModel" "thrown" "I") (by decide +kernel)
  have hf7 := hts (.fieldLink RX6 7 "VaultShelvesModel" "s" "[I") (by decide +kernel)
  have hiX6 : ∀ w ∈ u_ws RX6 TX6 16, w ∈ wsX6_records := by decide +kernel
  have hl := lv_entry ([.ref o]) (n := 1) (Nat.le_of_ble_eq_true rfl)
  rw [lg_entry_eq]
  generalize (lg_sl ([.ref o]) ++ List.replicate (1 - (lg_sl ([.ref o])).length) Slot.unset).toArray = ls at hl ⊢
  replace hl : lv_has ls 1 [(0, .ref o)] := hl
  refine lv_aload_n hx hb dX6_records_0 rfl (lv_at hl 0 rfl) ?_
  refine lv_iconst (v := (nI 0)) hx hb dX6_records_1 (by decide) ?_
  refine va_put (D := (dC, dI)) (ci := 4) (v := .int (nI 0)) (ty := .int) (C := RX6) (T := TX6) (N := 16) hx hb hts hiX6 tyX6 tyX6_ok nmX6 hown hK hP hD hS 0 rfl rfl 0 (by decide) hf25 (fun _ h9 => h9) rfl (by decide +kernel) rfl rfl (Nat.le_of_ble_eq_true rfl) dX6_records_2 (fun H locs hP hD hS => ?_)
  replace hP : va_P (dC, dI) vwCl [(o, .inr (4, [.int (nI 0), .ref aS, .ref aA, .ref aV, .int sm, .ref aB, .int ln, .int at_, .int wl, .ref aR, .int rm, .int ga, .int fi, .int se, .int ex, .long ha])), (aS, .inl (cI, 96, .inl S))] H := hP
  replace hD : va_D A [(o, .inr (4, [.int (nI 0), .ref aS, .ref aA, .ref aV, .int sm, .ref aB, .int ln, .int at_, .int wl, .ref aR, .int rm, .int ga, .int fi, .int se, .int ex, .long ha])), (aS, .inl (cI, 96, .inl S))] := hD
  refine lv_aload_n hx hb dX6_records_5 rfl (lv_at hl 0 rfl) ?_
  refine va_get (D := (dC, dI)) (ci := 4) (v := .ref aS) (C := RX6) (T := TX6) (N := 16) hx hb hts hiX6 hown hK hP 0 rfl rfl 1 (by decide) hf7 (fun _ h9 => h9) rfl dX6_records_6 ?_
  refine lv_iconst (v := (nI 0)) hx hb dX6_records_9 (by decide) ?_
  refine n_iald hx hb hK hP 1 0 rfl rfl (show 0 < 96 from by omega) (by decide) dX6_records_10 ?_
  have hP9 := hP
  have hD9 := hD
  exact W.iret (v := (S 0)) hx hb hr (fun t ht hW => ⟨⟨(S 0), (), rfl, rfl, by rw [ht]; exact hP9, va_K.moved hW.alike hK, hD9⟩, hS.F ht⟩) hS.2.2 dX6_records_11
set_option maxHeartbeats 4000000 in
set_option maxRecDepth 100000 in
theorem kX6_walked (l : Launch) (dC : Nat → ClassId) (dI : Nat → Nat → Nat) (cI cV cW : ClassId) (sz : Nat) (o : Nat) (th : Int32) (aS : Nat) (aA : Nat) (aV : Nat) (sm : Int32) (aB : Nat) (ln : Int32) (at_ : Int32) (wl : Int32) (aR : Nat) (rm : Int32) (ga : Int32) (fi : Int32) (se : Int32) (ex : Int32) (ha : Int64) (S : Nat → Int32)  : Met l yX6_walked wsX6_walked ({ frames := 0, cells := 0, slots := 0, locals := 0 }) (pW (dC, dI) (tyS cI cV cW) sz [.ref o] [(o, .inr (4, [.int th, .ref aS, .ref aA, .ref aV, .int sm, .ref aB, .int ln, .int at_, .int wl, .ref aR, .int rm, .int ga, .int fi, .int se, .int ex, .long ha])), (aS, .inl (cI, 96, .inl S))]) (va_Qi (fun (r_ : Int32) (_ : Unit) => r_ = (S 1)) (fun (_ : Unit) t => qB (dC, dI) (tyS cI cV cW) (va_A [(o, .inr (4, [.int th, .ref aS, .ref aA, .ref aV, .int sm, .ref aB, .int ln, .int at_, .int wl, .ref aR, .int rm, .int ga, .int fi, .int se, .int ex, .long ha])), (aS, .inl (cI, 96, .inl S))] sz) [(o, .inr (4, [.int (nI 0), .ref aS, .ref aA, .ref aV, .int sm, .ref aB, .int ln, .int at_, .int wl, .ref aR, .int rm, .int ga, .int fi, .int se, .int ex, .long ha])), (aS, .inl (cI, 96, .inl S))] t) (va_A [(o, .inr (4, [.int th, .ref aS, .ref aA, .ref aV, .int sm, .ref aB, .int ln, .int at_, .int wl, .ref aR, .int rm, .int ga, .int fi, .int se, .int ex, .long ha])), (aS, .inl (cI, 96, .inl S))] sz)) 0 0 (va_A [(o, .inr (4, [.int th, .ref aS, .ref aA, .ref aV, .int sm, .ref aB, .int ln, .int at_, .int wl, .ref aR, .int rm, .int ga, .int fi, .int se, .int ex, .long ha])), (aS, .inl (cI, 96, .inl S))] sz) := by
  refine Met.ofW (cc := cX6_walked) (maxL := 1) (ret := (some .int)) (by decide) rfl ?_
  intro p e s m args below meth c s₁ B hml hv
  obtain ⟨rfl, hsz, hP, hK, hD0⟩ := hv
  have hx := B.exec
  have hb := B.bytes
  have hr := B.returns
  have hts := atoms_spec (ws := wsX6_walked) B.pre
  have hown : s.vm.findClass RX6 = some m.cls := findClass_of_methodNamed B.named
  have hlocks := B.notSynchronized
  subst hsz
  have hD := hD0.self (sz := s.heap.size)
  generalize hAe : va_A [(o, .inr (4, [.int th, .ref aS, .ref aA, .ref aV, .int sm, .ref aB, .int ln, .int at_, .int wl, .ref aR, .int rm, .int ga, .int fi, .int se, .int ex, .long ha])), (aS, .inl (cI, 96, .inl S))] s.heap.size = A at hD ⊢
  have hA : ∀ q : Nat, s.heap.size ≤ q → A q := fun q h => by rw [← hAe]; exact Or.inr h
  have hS : va_S A s.heap s.heap [] := va_S.rf
  refine w_gen hP hS (fun H locs hP hS => ?_)
  have hf25 := hts (.fieldLink RX6 25 "VaultShelvesModel" "thrown" "I") (by decide +kernel)
  have hf7 := hts (.fieldLink RX6 7 "VaultShelvesModel" "s" "[I") (by decide +kernel)
  have hiX6 : ∀ w ∈ u_ws RX6 TX6 16, w ∈ wsX6_walked := by decide +kernel
  have hl := lv_entry ([.ref o]) (n := 1) (Nat.le_of_ble_eq_true rfl)
  rw [lg_entry_eq]
  generalize (lg_sl ([.ref o]) ++ List.replicate (1 - (lg_sl ([.ref o])).length) Slot.unset).toArray = ls at hl ⊢
  replace hl : lv_has ls 1 [(0, .ref o)] := hl
  refine lv_aload_n hx hb dX6_walked_0 rfl (lv_at hl 0 rfl) ?_
  refine lv_iconst (v := (nI 0)) hx hb dX6_walked_1 (by decide) ?_
  refine va_put (D := (dC, dI)) (ci := 4) (v := .int (nI 0)) (ty := .int) (C := RX6) (T := TX6) (N := 16) hx hb hts hiX6 tyX6 tyX6_ok nmX6 hown hK hP hD hS 0 rfl rfl 0 (by decide) hf25 (fun _ h9 => h9) rfl (by decide +kernel) rfl rfl (Nat.le_of_ble_eq_true rfl) dX6_walked_2 (fun H locs hP hD hS => ?_)
  replace hP : va_P (dC, dI) vwCl [(o, .inr (4, [.int (nI 0), .ref aS, .ref aA, .ref aV, .int sm, .ref aB, .int ln, .int at_, .int wl, .ref aR, .int rm, .int ga, .int fi, .int se, .int ex, .long ha])), (aS, .inl (cI, 96, .inl S))] H := hP
  replace hD : va_D A [(o, .inr (4, [.int (nI 0), .ref aS, .ref aA, .ref aV, .int sm, .ref aB, .int ln, .int at_, .int wl, .ref aR, .int rm, .int ga, .int fi, .int se, .int ex, .long ha])), (aS, .inl (cI, 96, .inl S))] := hD
  refine lv_aload_n hx hb dX6_walked_5 rfl (lv_at hl 0 rfl) ?_
  refine va_get (D := (dC, dI)) (ci := 4) (v := .ref aS) (C := RX6) (T := TX6) (N := 16) hx hb hts hiX6 hown hK hP 0 rfl rfl 1 (by decide) hf7 (fun _ h9 => h9) rfl dX6_walked_6 ?_
  refine lv_iconst (v := (nI 1)) hx hb dX6_walked_9 (by decide) ?_
  refine n_iald hx hb hK hP 1 0 rfl rfl (show 1 < 96 from by omega) (by decide) dX6_walked_10 ?_
  have hP9 := hP
  have hD9 := hD
  exact W.iret (v := (S 1)) hx hb hr (fun t ht hW => ⟨⟨(S 1), (), rfl, rfl, by rw [ht]; exact hP9, va_K.moved hW.alike hK, hD9⟩, hS.F ht⟩) hS.2.2 dX6_walked_11
set_option maxHeartbeats 4000000 in
set_option maxRecDepth 100000 in
theorem kX6_steps (l : Launch) (dC : Nat → ClassId) (dI : Nat → Nat → Nat) (cI cV cW : ClassId) (sz : Nat) (o : Nat) (th : Int32) (aS : Nat) (aA : Nat) (aV : Nat) (sm : Int32) (aB : Nat) (ln : Int32) (at_ : Int32) (wl : Int32) (aR : Nat) (rm : Int32) (ga : Int32) (fi : Int32) (se : Int32) (ex : Int32) (ha : Int64) (S : Nat → Int32)  : Met l yX6_steps wsX6_steps ({ frames := 0, cells := 0, slots := 0, locals := 0 }) (pW (dC, dI) (tyS cI cV cW) sz [.ref o] [(o, .inr (4, [.int th, .ref aS, .ref aA, .ref aV, .int sm, .ref aB, .int ln, .int at_, .int wl, .ref aR, .int rm, .int ga, .int fi, .int se, .int ex, .long ha])), (aS, .inl (cI, 96, .inl S))]) (va_Qi (fun (r_ : Int32) (_ : Unit) => r_ = (S 2)) (fun (_ : Unit) t => qB (dC, dI) (tyS cI cV cW) (va_A [(o, .inr (4, [.int th, .ref aS, .ref aA, .ref aV, .int sm, .ref aB, .int ln, .int at_, .int wl, .ref aR, .int rm, .int ga, .int fi, .int se, .int ex, .long ha])), (aS, .inl (cI, 96, .inl S))] sz) [(o, .inr (4, [.int (nI 0), .ref aS, .ref aA, .ref aV, .int sm, .ref aB, .int ln, .int at_, .int wl, .ref aR, .int rm, .int ga, .int fi, .int se, .int ex, .long ha])), (aS, .inl (cI, 96, .inl S))] t) (va_A [(o, .inr (4, [.int th, .ref aS, .ref aA, .ref aV, .int sm, .ref aB, .int ln, .int at_, .int wl, .ref aR, .int rm, .int ga, .int fi, .int se, .int ex, .long ha])), (aS, .inl (cI, 96, .inl S))] sz)) 0 0 (va_A [(o, .inr (4, [.int th, .ref aS, .ref aA, .ref aV, .int sm, .ref aB, .int ln, .int at_, .int wl, .ref aR, .int rm, .int ga, .int fi, .int se, .int ex, .long ha])), (aS, .inl (cI, 96, .inl S))] sz) := by
  refine Met.ofW (cc := cX6_steps) (maxL := 1) (ret := (some .int)) (by decide) rfl ?_
  intro p e s m args below meth c s₁ B hml hv
  obtain ⟨rfl, hsz, hP, hK, hD0⟩ := hv
  have hx := B.exec
  have hb := B.bytes
  have hr := B.returns
  have hts := atoms_spec (ws := wsX6_steps) B.pre
  have hown : s.vm.findClass RX6 = some m.cls := findClass_of_methodNamed B.named
  have hlocks := B.notSynchronized
  subst hsz
  have hD := hD0.self (sz := s.heap.size)
  generalize hAe : va_A [(o, .inr (4, [.int th, .ref aS, .ref aA, .ref aV, .int sm, .ref aB, .int ln, .int at_, .int wl, .ref aR, .int rm, .int ga, .int fi, .int se, .int ex, .long ha])), (aS, .inl (cI, 96, .inl S))] s.heap.size = A at hD ⊢
  have hA : ∀ q : Nat, s.heap.size ≤ q → A q := fun q h => by rw [← hAe]; exact Or.inr h
  have hS : va_S A s.heap s.heap [] := va_S.rf
  refine w_gen hP hS (fun H locs hP hS => ?_)
  have hf25 := hts (.fieldLink RX6 25 "VaultShelvesModel" "thrown" "I") (by decide +kernel)
  have hf7 := hts (.fieldLink RX6 7 "VaultShelvesModel" "s" "[I") (by decide +kernel)
  have hiX6 : ∀ w ∈ u_ws RX6 TX6 16, w ∈ wsX6_steps := by decide +kernel
  have hl := lv_entry ([.ref o]) (n := 1) (Nat.le_of_ble_eq_true rfl)
  rw [lg_entry_eq]
  generalize (lg_sl ([.ref o]) ++ List.replicate (1 - (lg_sl ([.ref o])).length) Slot.unset).toArray = ls at hl ⊢
  replace hl : lv_has ls 1 [(0, .ref o)] := hl
  refine lv_aload_n hx hb dX6_steps_0 rfl (lv_at hl 0 rfl) ?_
  refine lv_iconst (v := (nI 0)) hx hb dX6_steps_1 (by decide) ?_
  refine va_put (D := (dC, dI)) (ci := 4) (v := .int (nI 0)) (ty := .int) (C := RX6) (T := TX6) (N := 16) hx hb hts hiX6 tyX6 tyX6_ok nmX6 hown hK hP hD hS 0 rfl rfl 0 (by decide) hf25 (fun _ h9 => h9) rfl (by decide +kernel) rfl rfl (Nat.le_of_ble_eq_true rfl) dX6_steps_2 (fun H locs hP hD hS => ?_)
  replace hP : va_P (dC, dI) vwCl [(o, .inr (4, [.int (nI 0), .ref aS, .ref aA, .ref aV, .int sm, .ref aB, .int ln, .int at_, .int wl, .ref aR, .int rm, .int ga, .int fi, .int se, .int ex, .long ha])), (aS, .inl (cI, 96, .inl S))] H := hP
  replace hD : va_D A [(o, .inr (4, [.int (nI 0), .ref aS, .ref aA, .ref aV, .int sm, .ref aB, .int ln, .int at_, .int wl, .ref aR, .int rm, .int ga, .int fi, .int se, .int ex, .long ha])), (aS, .inl (cI, 96, .inl S))] := hD
  refine lv_aload_n hx hb dX6_steps_5 rfl (lv_at hl 0 rfl) ?_
  refine va_get (D := (dC, dI)) (ci := 4) (v := .ref aS) (C := RX6) (T := TX6) (N := 16) hx hb hts hiX6 hown hK hP 0 rfl rfl 1 (by decide) hf7 (fun _ h9 => h9) rfl dX6_steps_6 ?_
  refine lv_iconst (v := (nI 2)) hx hb dX6_steps_9 (by decide) ?_
  refine n_iald hx hb hK hP 1 0 rfl rfl (show 2 < 96 from by omega) (by decide) dX6_steps_10 ?_
  have hP9 := hP
  have hD9 := hD
  exact W.iret (v := (S 2)) hx hb hr (fun t ht hW => ⟨⟨(S 2), (), rfl, rfl, by rw [ht]; exact hP9, va_K.moved hW.alike hK, hD9⟩, hS.F ht⟩) hS.2.2 dX6_steps_11
set_option maxHeartbeats 4000000 in
set_option maxRecDepth 100000 in
theorem kX6_savedStates (l : Launch) (dC : Nat → ClassId) (dI : Nat → Nat → Nat) (cI cV cW : ClassId) (sz : Nat) (o : Nat) (th : Int32) (aS : Nat) (aA : Nat) (aV : Nat) (sm : Int32) (aB : Nat) (ln : Int32) (at_ : Int32) (wl : Int32) (aR : Nat) (rm : Int32) (ga : Int32) (fi : Int32) (se : Int32) (ex : Int32) (ha : Int64)  : Met l yX6_savedStates wsX6_savedStates ({ frames := 0, cells := 0, slots := 0, locals := 0 }) (pW (dC, dI) (tyS cI cV cW) sz [.ref o] [(o, .inr (4, [.int th, .ref aS, .ref aA, .ref aV, .int sm, .ref aB, .int ln, .int at_, .int wl, .ref aR, .int rm, .int ga, .int fi, .int se, .int ex, .long ha]))]) (va_Qi (fun (r_ : Int32) (_ : Unit) => r_ = sm) (fun (_ : Unit) t => qB (dC, dI) (tyS cI cV cW) (va_A [(o, .inr (4, [.int th, .ref aS, .ref aA, .ref aV, .int sm, .ref aB, .int ln, .int at_, .int wl, .ref aR, .int rm, .int ga, .int fi, .int se, .int ex, .long ha]))] sz) [(o, .inr (4, [.int (nI 0), .ref aS, .ref aA, .ref aV, .int sm, .ref aB, .int ln, .int at_, .int wl, .ref aR, .int rm, .int ga, .int fi, .int se, .int ex, .long ha]))] t) (va_A [(o, .inr (4, [.int th, .ref aS, .ref aA, .ref aV, .int sm, .ref aB, .int ln, .int at_, .int wl, .ref aR, .int rm, .int ga, .int fi, .int se, .int ex, .long ha]))] sz)) 0 0 (va_A [(o, .inr (4, [.int th, .ref aS, .ref aA, .ref aV, .int sm, .ref aB, .int ln, .int at_, .int wl, .ref aR, .int rm, .int ga, .int fi, .int se, .int ex, .long ha]))] sz) := by
  refine Met.ofW (cc := cX6_savedStates) (maxL := 1) (ret := (some .int)) (by decide) rfl ?_
  intro p e s m args below meth c s₁ B hml hv
  obtain ⟨rfl, hsz, hP, hK, hD0⟩ := hv
  have hx := B.exec
  have hb := B.bytes
  have hr := B.returns
  have hts := atoms_spec (ws := wsX6_savedStates) B.pre
  have hown : s.vm.findClass RX6 = some m.cls := findClass_of_methodNamed B.named
  have hlocks := B.notSynchronized
  subst hsz
  have hD := hD0.self (sz := s.heap.size)
  generalize hAe : va_A [(o, .inr (4, [.int th, .ref aS, .ref aA, .ref aV, .int sm, .ref aB, .int ln, .int at_, .int wl, .ref aR, .int rm, .int ga, .int fi, .int se, .int ex, .long ha]))] s.heap.size = A at hD ⊢
  have hA : ∀ q : Nat, s.heap.size ≤ q → A q := fun q h => by rw [← hAe]; exact Or.inr h
  have hS : va_S A s.heap s.heap [] := va_S.rf
  refine w_gen hP hS (fun H locs hP hS => ?_)
  have hf25 := hts (.fieldLink RX6 25 "VaultShelvesModel" "thrown" "I") (by decide +kernel)
  have hf33 := hts (.fieldLink RX6 33 "VaultShelvesModel" "savedMany" "I") (by decide +kernel)
  have hiX6 : ∀ w ∈ u_ws RX6 TX6 16, w ∈ wsX6_savedStates := by decide +kernel
  have hl := lv_entry ([.ref o]) (n := 1) (Nat.le_of_ble_eq_true rfl)
  rw [lg_entry_eq]
  generalize (lg_sl ([.ref o]) ++ List.replicate (1 - (lg_sl ([.ref o])).length) Slot.unset).toArray = ls at hl ⊢
  replace hl : lv_has ls 1 [(0, .ref o)] := hl
  refine lv_aload_n hx hb dX6_savedStates_0 rfl (lv_at hl 0 rfl) ?_
  refine lv_iconst (v := (nI 0)) hx hb dX6_savedStates_1 (by decide) ?_
  refine va_put (D := (dC, dI)) (ci := 4) (v := .int (nI 0)) (ty := .int) (C := RX6) (T := TX6) (N := 16) hx hb hts hiX6 tyX6 tyX6_ok nmX6 hown hK hP hD hS 0 rfl rfl 0 (by decide) hf25 (fun _ h9 => h9) rfl (by decide +kernel) rfl rfl (Nat.le_of_ble_eq_true rfl) dX6_savedStates_2 (fun H locs hP hD hS => ?_)
  replace hP : va_P (dC, dI) vwCl [(o, .inr (4, [.int (nI 0), .ref aS, .ref aA, .ref aV, .int sm, .ref aB, .int ln, .int at_, .int wl, .ref aR, .int rm, .int ga, .int fi, .int se, .int ex, .long ha]))] H := hP
  replace hD : va_D A [(o, .inr (4, [.int (nI 0), .ref aS, .ref aA, .ref aV, .int sm, .ref aB, .int ln, .int at_, .int wl, .ref aR, .int rm, .int ga, .int fi, .int se, .int ex, .long ha]))] := hD
  refine lv_aload_n hx hb dX6_savedStates_5 rfl (lv_at hl 0 rfl) ?_
  refine va_get (D := (dC, dI)) (ci := 4) (v := .int sm) (C := RX6) (T := TX6) (N := 16) hx hb hts hiX6 hown hK hP 0 rfl rfl 4 (by decide) hf33 (fun _ h9 => h9) rfl dX6_savedStates_6 ?_
  have hP9 := hP
  have hD9 := hD
  exact W.iret (v := sm) hx hb hr (fun t ht hW => ⟨⟨sm, (), rfl, rfl, by rw [ht]; exact hP9, va_K.moved hW.alike hK, hD9⟩, hS.F ht⟩) hS.2.2 dX6_savedStates_9
theorem hdX6_costs : yX6_costs.cls = RX6 ∧ yX6_costs.cls ≠ "java/lang/invoke/MethodHandle" ∧ yX6_costs.cls ≠ "java/lang/invoke/VarHandle" ∧ (parseMethodDescriptor yX6_costs.desc).map (fun d => d.parameters.length) = some 0 := by decide +kernel
set_option maxHeartbeats 4000000 in
set_option maxRecDepth 100000 in
theorem kX6_cost (l : Launch) (dC : Nat → ClassId) (dI : Nat → Nat → Nat) (cI cV cW : ClassId) (sz : Nat) (o : Nat) (th : Int32) (aS : Nat) (aA : Nat) (aV : Nat) (sm : Int32) (aB : Nat) (ln : Int32) (at_ : Int32) (wl : Int32) (aR : Nat) (rm : Int32) (ga : Int32) (fi : Int32) (se : Int32) (ex : Int32) (ha : Int64) (S : Nat → Int32) (cn : Nat) (hR : RO S cn) : Met l yX6_cost wsX6_cost ({ frames := 3, cells := 0, slots := 0, locals := 65 }) (pW (dC, dI) (tyS cI cV cW) sz [.ref o] [(o, .inr (4, [.int th, .ref aS, .ref aA, .ref aV, .int sm, .ref aB, .int ln, .int at_, .int wl, .ref aR, .int rm, .int ga, .int fi, .int se, .int ex, .long ha])), (aS, .inl (cI, 96, .inl S))]) (va_Qi (fun (r_ : Int32) (_ : Unit) => r_ = (sCo (gW S 3) (gW S 4) (gW S 2) (gQ S) cn)) (fun (_ : Unit) t => qB (dC, dI) (tyS cI cV cW) (va_A [(o, .inr (4, [.int th, .ref aS, .ref aA, .ref aV, .int sm, .ref aB, .int ln, .int at_, .int wl, .ref aR, .int rm, .int ga, .int fi, .int se, .int ex, .long ha])), (aS, .inl (cI, 96, .inl S))] sz) [(o, .inr (4, [.int (nI 0), .ref aS, .ref aA, .ref aV, .int sm, .ref aB, .int ln, .int at_, .int wl, .ref aR, .int rm, .int ga, .int fi, .int se, .int ex, .long ha])), (aS, .inl (cI, 96, .inl S))] t) (va_A [(o, .inr (4, [.int th, .ref aS, .ref aA, .ref aV, .int sm, .ref aB, .int ln, .int at_, .int wl, .ref aR, .int rm, .int ga, .int fi, .int se, .int ex, .long ha])), (aS, .inl (cI, 96, .inl S))] sz)) 0 0 (va_A [(o, .inr (4, [.int th, .ref aS, .ref aA, .ref aV, .int sm, .ref aB, .int ln, .int at_, .int wl, .ref aR, .int rm, .int ga, .int fi, .int se, .int ex, .long ha])), (aS, .inl (cI, 96, .inl S))] sz) := by
  refine Met.ofW (cc := cX6_cost) (maxL := 1) (ret := (some .int)) (by decide) rfl ?_
  intro p e s m args below meth c s₁ B hml hv
  obtain ⟨rfl, hsz, hP, hK, hD0⟩ := hv
  have hx := B.exec
  have hb := B.bytes
  have hr := B.returns
  have hts := atoms_spec (ws := wsX6_cost) B.pre
  have hown : s.vm.findClass RX6 = some m.cls := findClass_of_methodNamed B.named
  have hlocks := B.notSynchronized
  subst hsz
  have hD := hD0.self (sz := s.heap.size)
  generalize hAe : va_A [(o, .inr (4, [.int th, .ref aS, .ref aA, .ref aV, .int sm, .ref aB, .int ln, .int at_, .int wl, .ref aR, .int rm, .int ga, .int fi, .int se, .int ex, .long ha])), (aS, .inl (cI, 96, .inl S))] s.heap.size = A at hD ⊢
  have hA : ∀ q : Nat, s.heap.size ≤ q → A q := fun q h => by rw [← hAe]; exact Or.inr h
  have hS : va_S A s.heap s.heap [] := va_S.rf
  refine w_gen hP hS (fun H locs hP hS => ?_)
  have hf25 := hts (.fieldLink RX6 25 "VaultShelvesModel" "thrown" "I") (by decide +kernel)
  have hiX6 : ∀ w ∈ u_ws RX6 TX6 16, w ∈ wsX6_cost := by decide +kernel
  have hl := lv_entry ([.ref o]) (n := 1) (Nat.le_of_ble_eq_true rfl)
  rw [lg_entry_eq]
  generalize (lg_sl ([.ref o]) ++ List.replicate (1 - (lg_sl ([.ref o])).length) Slot.unset).toArray = ls at hl ⊢
  replace hl : lv_has ls 1 [(0, .ref o)] := hl
  refine lv_aload_n hx hb dX6_cost_0 rfl (lv_at hl 0 rfl) ?_
  refine lv_iconst (v := (nI 0)) hx hb dX6_cost_1 (by decide) ?_
  refine va_put (D := (dC, dI)) (ci := 4) (v := .int (nI 0)) (ty := .int) (C := RX6) (T := TX6) (N := 16) hx hb hts hiX6 tyX6 tyX6_ok nmX6 hown hK hP hD hS 0 rfl rfl 0 (by decide) hf25 (fun _ h9 => h9) rfl (by decide +kernel) rfl rfl (Nat.le_of_ble_eq_true rfl) dX6_cost_2 (fun H locs hP hD hS => ?_)
  replace hP : va_P (dC, dI) vwCl [(o, .inr (4, [.int (nI 0), .ref aS, .ref aA, .ref aV, .int sm, .ref aB, .int ln, .int at_, .int wl, .ref aR, .int rm, .int ga, .int fi, .int se, .int ex, .long ha])), (aS, .inl (cI, 96, .inl S))] H := hP
  replace hD : va_D A [(o, .inr (4, [.int (nI 0), .ref aS, .ref aA, .ref aV, .int sm, .ref aB, .int ln, .int at_, .int wl, .ref aR, .int rm, .int ga, .int fi, .int se, .int ex, .long ha])), (aS, .inl (cI, 96, .inl S))] := hD
  refine lv_aload_n hx hb dX6_cost_5 rfl (lv_at hl 0 rfl) ?_
  refine vp_callSi (W.runV (As := []) (rest := []) ⟨hx, hb, hml, hown, hts⟩ (kX6_costs l dC dI cI cV cW o 0 aS aA aV sm aB ln at_ wl aR rm ga fi se ex ha S cn (hR)) (cwV 0 hts gX6_cost_X6_costs rfl rfl rfl hdX6_costs ⟨Nat.le_of_ble_eq_true rfl, Nat.le_of_ble_eq_true rfl⟩) (pR_V hK hP 0 4 rfl rfl rfl [0, 1] rfl) rfl rfl hl.1 rfl (lv_room (Nat.le_of_ble_eq_true rfl)) dX6_cost_6 ⟨Nat.zero_le _, Nat.zero_le _⟩) (fun r_6 hr_ => ?_)
  subst hr_
  have hP9 := hP
  have hD9 := hD
  exact W.iret (v := (sCo (gW S 3) (gW S 4) (gW S 2) (gQ S) cn)) hx hb hr (fun t ht hW => ⟨⟨(sCo (gW S 3) (gW S 4) (gW S 2) (gQ S) cn), (), rfl, rfl, by rw [ht]; exact hP9, va_K.moved hW.alike hK, hD9⟩, hS.F ht⟩) hS.2.2 dX6_cost_9
set_option maxHeartbeats 4000000 in
set_option maxRecDepth 100000 in
theorem kX6_width (l : Launch) (dC : Nat → ClassId) (dI : Nat → Nat → Nat) (cI cV cW : ClassId) (sz : Nat) (o : Nat) (th : Int32) (aS : Nat) (aA : Nat) (aV : Nat) (sm : Int32) (aB : Nat) (ln : Int32) (at_ : Int32) (wl : Int32) (aR : Nat) (rm : Int32) (ga : Int32) (fi : Int32) (se : Int32) (ex : Int32) (ha : Int64) (S : Nat → Int32) (cn : Nat) (x : Int32) (hR : RO S cn) : Met l yX6_width wsX6_width ({ frames := 2, cells := 0, slots := 0, locals := 43 }) (pW (dC, dI) (tyS cI cV cW) sz [.ref o, .int x] [(o, .inr (4, [.int th, .ref aS, .ref aA, .ref aV, .int sm, .ref aB, .int ln, .int at_, .int wl, .ref aR, .int rm, .int ga, .int fi, .int se, .int ex, .long ha])), (aS, .inl (cI, 96, .inl S))]) (va_Qi (fun (r_ : Int32) (_ : Unit) => r_ = (if sIn x 0 (S 0 - 1) = true then gW S 0 (ix x) else 0)) (fun (_ : Unit) t => qB (dC, dI) (tyS cI cV cW) (va_A [(o, .inr (4, [.int th, .ref aS, .ref aA, .ref aV, .int sm, .ref aB, .int ln, .int at_, .int wl, .ref aR, .int rm, .int ga, .int fi, .int se, .int ex, .long ha])), (aS, .inl (cI, 96, .inl S))] sz) [(o, .inr (4, [.int (nI (if sIn x 0 (S 0 - 1) = true then 0 else 1)), .ref aS, .ref aA, .ref aV, .int sm, .ref aB, .int ln, .int at_, .int wl, .ref aR, .int rm, .int ga, .int fi, .int se, .int ex, .long ha])), (aS, .inl (cI, 96, .inl S))] t) (va_A [(o, .inr (4, [.int th, .ref aS, .ref aA, .ref aV, .int sm, .ref aB, .int ln, .int at_, .int wl, .ref aR, .int rm, .int ga, .int fi, .int se, .int ex, .long ha])), (aS, .inl (cI, 96, .inl S))] sz)) 0 0 (va_A [(o, .inr (4, [.int th, .ref aS, .ref aA, .ref aV, .int sm, .ref aB, .int ln, .int at_, .int wl, .ref aR, .int rm, .int ga, .int fi, .int se, .int ex, .long ha])), (aS, .inl (cI, 96, .inl S))] sz) := by
  refine Met.ofW (cc := cX6_width) (maxL := 2) (ret := (some .int)) (by decide) rfl ?_
  intro p e s m args below meth c s₁ B hml hv
  obtain ⟨rfl, hsz, hP, hK, hD0⟩ := hv
  have hx := B.exec
  have hb := B.bytes
  have hr := B.returns
  have hts := atoms_spec (ws := wsX6_width) B.pre
  have hown : s.vm.findClass RX6 = some m.cls := findClass_of_methodNamed B.named
  have hlocks := B.notSynchronized
  subst hsz
  have hD := hD0.self (sz := s.heap.size)
  generalize hAe : va_A [(o, .inr (4, [.int th, .ref aS, .ref aA, .ref aV, .int sm, .ref aB, .int ln, .int at_, .int wl, .ref aR, .int rm, .int ga, .int fi, .int se, .int ex, .long ha])), (aS, .inl (cI, 96, .inl S))] s.heap.size = A at hD ⊢
  have hA : ∀ q : Nat, s.heap.size ≤ q → A q := fun q h => by rw [← hAe]; exact Or.inr h
  have hS : va_S A s.heap s.heap [] := va_S.rf
  refine w_gen hP hS (fun H locs hP hS => ?_)
  have hf25 := hts (.fieldLink RX6 25 "VaultShelvesModel" "thrown" "I") (by decide +kernel)
  have hiX6 : ∀ w ∈ u_ws RX6 TX6 16, w ∈ wsX6_width := by decide +kernel
  have hl := lv_entry ([.ref o, .int x]) (n := 2) (Nat.le_of_ble_eq_true rfl)
  rw [lg_entry_eq]
  generalize (lg_sl ([.ref o, .int x]) ++ List.replicate (2 - (lg_sl ([.ref o, .int x])).length) Slot.unset).toArray = ls at hl ⊢
  replace hl : lv_has ls 2 [(0, .ref o), (1, .int x)] := hl
  have hc := hR.2.1
  refine lv_aload_n hx hb dX6_width_0 rfl (lv_at hl 0 rfl) ?_
  refine lv_iconst (v := (nI 0)) hx hb dX6_width_1 (by decide) ?_
  refine va_put (D := (dC, dI)) (ci := 4) (v := .int (nI 0)) (ty := .int) (C := RX6) (T := TX6) (N := 16) hx hb hts hiX6 tyX6 tyX6_ok nmX6 hown hK hP hD hS 0 rfl rfl 0 (by decide) hf25 (fun _ h9 => h9) rfl (by decide +kernel) rfl rfl (Nat.le_of_ble_eq_true rfl) dX6_width_2 (fun H locs hP hD hS => ?_)
  replace hP : va_P (dC, dI) vwCl [(o, .inr (4, [.int (nI 0), .ref aS, .ref aA, .ref aV, .int sm, .ref aB, .int ln, .int at_, .int wl, .ref aR, .int rm, .int ga, .int fi, .int se, .int ex, .long ha])), (aS, .inl (cI, 96, .inl S))] H := hP
  replace hD : va_D A [(o, .inr (4, [.int (nI 0), .ref aS, .ref aA, .ref aV, .int sm, .ref aB, .int ln, .int at_, .int wl, .ref aR, .int rm, .int ga, .int fi, .int se, .int ex, .long ha])), (aS, .inl (cI, 96, .inl S))] := hD
  refine lv_aload_n hx hb dX6_width_5 rfl (lv_at hl 0 rfl) ?_
  refine lv_iload_n hx hb dX6_width_6 rfl (lv_at hl 1 rfl) ?_
  refine vp_callSi (W.runV (As := [.int x]) (rest := []) ⟨hx, hb, hml, hown, hts⟩ (kX6_isRecord l dC dI cI cV cW o 0 aS aA aV sm aB ln at_ wl aR rm ga fi se ex ha S x) (cwV 1 hts gX6_width_X6_isRecord rfl rfl rfl hdX6_isRecord ⟨Nat.le_of_ble_eq_true rfl, Nat.le_of_ble_eq_true rfl⟩) (pR_V hK hP 0 4 rfl rfl rfl [0, 1] rfl) rfl rfl hl.1 rfl (lv_room (Nat.le_of_ble_eq_true rfl)) dX6_width_7 ⟨Nat.zero_le _, Nat.zero_le _⟩) (fun r_7 hr_ => ?_)
  subst hr_
  refine b_if_eq (tgt := 22) hx hb dX6_width_10 (by decide) (fun c_10 => ?_) (fun c_10 => ?_)
  · refine lv_aload_n hx hb dX6_width_22 rfl (lv_at hl 0 rfl) ?_
    refine lv_iconst (v := (nI 1)) hx hb dX6_width_23 (by decide) ?_
    have hPc := hP.sub (ws' := [(o, .inr (4, [.int (nI 0), .ref aS, .ref aA, .ref aV, .int sm, .ref aB, .int ln, .int at_, .int wl, .ref aR, .int rm, .int ga, .int fi, .int se, .int ex, .long ha]))]) [0] rfl
    have hDc := hD.sub (ws' := [(o, .inr (4, [.int (nI 0), .ref aS, .ref aA, .ref aV, .int sm, .ref aB, .int ln, .int at_, .int wl, .ref aR, .int rm, .int ga, .int fi, .int se, .int ex, .long ha]))]) [0] (by decide) rfl
    have hFc := va_free (wc := [(o, .inr (4, [.int (nI 0), .ref aS, .ref aA, .ref aV, .int sm, .ref aB, .int ln, .int at_, .int wl, .ref aR, .int rm, .int ga, .int fi, .int se, .int ex, .long ha]))]) hD hS hA [0] rfl
    refine va_calli (va_runV (As := [.int (nI 1)]) (rest := []) ⟨hx, hb, hml, hown, hts⟩ (kX6_fails l dC dI cI cV cW H.size o 0 aS aA aV sm aB ln at_ wl aR rm ga fi se ex ha 1) (cwV 1 hts gX6_width_X6_fails rfl rfl rfl hdX6_fails ⟨Nat.le_of_ble_eq_true rfl, Nat.le_of_ble_eq_true rfl⟩) (pW_V hK hP hPc hDc 0 4 rfl rfl rfl) rfl rfl hl.1 rfl (lv_room (Nat.le_of_ble_eq_true rfl)) dX6_width_24 ⟨Nat.zero_le _, Nat.zero_le _⟩) hS (fun q _ h => hFc q h) hFc (fun r_24 u_ t_ H1 locs ht_ hvm_ hw_ hB_ hz_ hk_ hS => ?_)
    obtain ⟨hP1, -, hD1⟩ := hB_
    rw [ht_] at hP1
    obtain ⟨hP, hD⟩ := va_join (wr := [(aS, .inl (cI, 96, .inl S))]) (w1 := [(o, .inr (4, [.int 1, .ref aS, .ref aA, .ref aV, .int sm, .ref aB, .int ln, .int at_, .int wl, .ref aR, .int rm, .int ga, .int fi, .int se, .int ex, .long ha]))]) hP hD [0] [1] rfl rfl (by decide) (by decide) hk_ hFc hP1 hD1
    clear hP1 hD1 hPc hDc hFc hk_ hz_ hvm_ ht_
    generalize H1 = H at hP hS ⊢
    replace hP : va_P (dC, dI) vwCl [(o, .inr (4, [.int 1, .ref aS, .ref aA, .ref aV, .int sm, .ref aB, .int ln, .int at_, .int wl, .ref aR, .int rm, .int ga, .int fi, .int se, .int ex, .long ha])), (aS, .inl (cI, 96, .inl S))] H := hP.sub [1, 0] rfl
    replace hD : va_D A [(o, .inr (4, [.int 1, .ref aS, .ref aA, .ref aV, .int sm, .ref aB, .int ln, .int at_, .int wl, .ref aR, .int rm, .int ga, .int fi, .int se, .int ex, .long ha])), (aS, .inl (cI, 96, .inl S))] := hD.sub [1, 0] (by decide) rfl
    refine W.widen (k := 0) (n := 0) (Nat.le_refl 0) (Nat.le_refl 0) ?_
    have hw_ : r_24 = (nI 0) := hw_
    subst hw_
    have ec_r27_1_o_0 : 1 = (nI (if sIn x 0 (S 0 - 1) = true then 0 else 1)) := by first | rfl | (first | (simp [c_10] <;> rfl))
    have ew_r27_1 : ([(o, .inr (4, [.int 1, .ref aS, .ref aA, .ref aV, .int sm, .ref aB, .int ln, .int at_, .int wl, .ref aR, .int rm, .int ga, .int fi, .int se, .int ex, .long ha])), (aS, .inl (cI, 96, .inl S))] : va_W) = [(o, .inr (4, [.int (nI (if sIn x 0 (S 0 - 1) = true then 0 else 1)), .ref aS, .ref aA, .ref aV, .int sm, .ref aB, .int ln, .int at_, .int wl, .ref aR, .int rm, .int ga, .int fi, .int se, .int ex, .long ha])), (aS, .inl (cI, 96, .inl S))] := (congrArg (fun z_ => ([(o, .inr (4, [.int z_, .ref aS, .ref aA, .ref aV, .int sm, .ref aB, .int ln, .int at_, .int wl, .ref aR, .int rm, .int ga, .int fi, .int se, .int ex, .long ha])), (aS, .inl (cI, 96, .inl S))] : va_W)) ec_r27_1_o_0)
    have hP9 := (w_cgP ew_r27_1 hP)
    have hD9 := (w_cgD ew_r27_1 hD)
    exact W.iret (v := (nI 0)) hx hb hr (fun t ht hW => ⟨⟨(nI 0), (), rfl, (show (nI 0) = (if sIn x 0 (S 0 - 1) = true then gW S 0 (ix x) else 0) from by first | rfl | (first | (simp [c_10] <;> rfl))), by rw [ht]; exact hP9, va_K.moved hW.alike hK, hD9⟩, hS.F ht⟩) hS.2.2 dX6_width_27
  · obtain ⟨r, hr_0, rfl⟩ := rc_of2 hR c_10
    refine lv_aload_n hx hb dX6_width_13 rfl (lv_at hl 0 rfl) ?_
    refine lv_iload_n hx hb dX6_width_14 rfl (lv_at hl 1 rfl) ?_
    refine lv_iconst (v := (nI 0)) hx hb dX6_width_15 (by decide) ?_
    refine vp_callSi (W.runV (As := [.int (nI r), .int (nI 0)]) (rest := []) ⟨hx, hb, hml, hown, hts⟩ (kX6_of l dC dI cI cV cW o 0 aS aA aV sm aB ln at_ wl aR rm ga fi se ex ha S r 0 (by omega) (by omega)) (cwV 2 hts gX6_width_X6_of rfl rfl rfl hdX6_of ⟨Nat.le_of_ble_eq_true rfl, Nat.le_of_ble_eq_true rfl⟩) (pR_V hK hP 0 4 rfl rfl rfl [0, 1] rfl) rfl rfl hl.1 rfl (lv_room (Nat.le_of_ble_eq_true rfl)) dX6_width_16 ⟨Nat.zero_le _, Nat.zero_le _⟩) (fun r_16 hr_ => ?_)
    subst hr_
    refine lv_goto (tgt := 27) hx hb dX6_width_19 (by decide) ?_
    have ec_r27_2_o_0 : (nI 0) = (nI (if sIn (nI r) 0 (S 0 - 1) = true then 0 else 1)) := by first | rfl | (first | (simp [c_10, ix_nI (show r < 2147483648 by omega)] <;> rfl))
    have ew_r27_2 : ([(o, .inr (4, [.int (nI 0), .ref aS, .ref aA, .ref aV, .int sm, .ref aB, .int ln, .int at_, .int wl, .ref aR, .int rm, .int ga, .int fi, .int se, .int ex, .long ha])), (aS, .inl (cI, 96, .inl S))] : va_W) = [(o, .inr (4, [.int (nI (if sIn (nI r) 0 (S 0 - 1) = true then 0 else 1)), .ref aS, .ref aA, .ref aV, .int sm, .ref aB, .int ln, .int at_, .int wl, .ref aR, .int rm, .int ga, .int fi, .int se, .int ex, .long ha])), (aS, .inl (cI, 96, .inl S))] := (congrArg (fun z_ => ([(o, .inr (4, [.int z_, .ref aS, .ref aA, .ref aV, .int sm, .ref aB, .int ln, .int at_, .int wl, .ref aR, .int rm, .int ga, .int fi, .int se, .int ex, .long ha])), (aS, .inl (cI, 96, .inl S))] : va_W)) ec_r27_2_o_0)
    have hP9 := (w_cgP ew_r27_2 hP)
    have hD9 := (w_cgD ew_r27_2 hD)
    exact W.iret (v := (gW S 0 r)) hx hb hr (fun t ht hW => ⟨⟨(gW S 0 r), (), rfl, (show (gW S 0 r) = (if sIn (nI r) 0 (S 0 - 1) = true then gW S 0 (ix (nI r)) else 0) from by first | rfl | (first | (simp [c_10, ix_nI (show r < 2147483648 by omega)] <;> rfl))), by rw [ht]; exact hP9, va_K.moved hW.alike hK, hD9⟩, hS.F ht⟩) hS.2.2 dX6_width_27
set_option maxHeartbeats 4000000 in
set_option maxRecDepth 100000 in
theorem kX6_shelfOf (l : Launch) (dC : Nat → ClassId) (dI : Nat → Nat → Nat) (cI cV cW : ClassId) (sz : Nat) (o : Nat) (th : Int32) (aS : Nat) (aA : Nat) (aV : Nat) (sm : Int32) (aB : Nat) (ln : Int32) (at_ : Int32) (wl : Int32) (aR : Nat) (rm : Int32) (ga : Int32) (fi : Int32) (se : Int32) (ex : Int32) (ha : Int64) (S : Nat → Int32) (cn : Nat) (x : Int32) (hR : RO S cn) : Met l yX6_shelfOf wsX6_shelfOf ({ frames := 2, cells := 0, slots := 0, locals := 43 }) (pW (dC, dI) (tyS cI cV cW) sz [.ref o, .int x] [(o, .inr (4, [.int th, .ref aS, .ref aA, .ref aV, .int sm, .ref aB, .int ln, .int at_, .int wl, .ref aR, .int rm, .int ga, .int fi, .int se, .int ex, .long ha])), (aS, .inl (cI, 96, .inl S))]) (va_Qi (fun (r_ : Int32) (_ : Unit) => r_ = (if sIn x 0 (S 0 - 1) = true then gW S 1 (ix x) else 0)) (fun (_ : Unit) t => qB (dC, dI) (tyS cI cV cW) (va_A [(o, .inr (4, [.int th, .ref aS, .ref aA, .ref aV, .int sm, .ref aB, .int ln, .int at_, .int wl, .ref aR, .int rm, .int ga, .int fi, .int se, .int ex, .long ha])), (aS, .inl (cI, 96, .inl S))] sz) [(o, .inr (4, [.int (nI (if sIn x 0 (S 0 - 1) = true then 0 else 1)), .ref aS, .ref aA, .ref aV, .int sm, .ref aB, .int ln, .int at_, .int wl, .ref aR, .int rm, .int ga, .int fi, .int se, .int ex, .long ha])), (aS, .inl (cI, 96, .inl S))] t) (va_A [(o, .inr (4, [.int th, .ref aS, .ref aA, .ref aV, .int sm, .ref aB, .int ln, .int at_, .int wl, .ref aR, .int rm, .int ga, .int fi, .int se, .int ex, .long ha])), (aS, .inl (cI, 96, .inl S))] sz)) 0 0 (va_A [(o, .inr (4, [.int th, .ref aS, .ref aA, .ref aV, .int sm, .ref aB, .int ln, .int at_, .int wl, .ref aR, .int rm, .int ga, .int fi, .int se, .int ex, .long ha])), (aS, .inl (cI, 96, .inl S))] sz) := by
  refine Met.ofW (cc := cX6_shelfOf) (maxL := 2) (ret := (some .int)) (by decide) rfl ?_
  intro p e s m args below meth c s₁ B hml hv
  obtain ⟨rfl, hsz, hP, hK, hD0⟩ := hv
  have hx := B.exec
  have hb := B.bytes
  have hr := B.returns
  have hts := atoms_spec (ws := wsX6_shelfOf) B.pre
  have hown : s.vm.findClass RX6 = some m.cls := findClass_of_methodNamed B.named
  have hlocks := B.notSynchronized
  subst hsz
  have hD := hD0.self (sz := s.heap.size)
  generalize hAe : va_A [(o, .inr (4, [.int th, .ref aS, .ref aA, .ref aV, .int sm, .ref aB, .int ln, .int at_, .int wl, .ref aR, .int rm, .int ga, .int fi, .int se, .int ex, .long ha])), (aS, .inl (cI, 96, .inl S))] s.heap.size = A at hD ⊢
  have hA : ∀ q : Nat, s.heap.size ≤ q → A q := fun q h => by rw [← hAe]; exact Or.inr h
  have hS : va_S A s.heap s.heap [] := va_S.rf
  refine w_gen hP hS (fun H locs hP hS => ?_)
  have hf25 := hts (.fieldLink RX6 25 "VaultShelvesModel" "thrown" "I") (by decide +kernel)
  have hiX6 : ∀ w ∈ u_ws RX6 TX6 16, w ∈ wsX6_shelfOf := by decide +kernel
  have hl := lv_entry ([.ref o, .int x]) (n := 2) (Nat.le_of_ble_eq_true rfl)
  rw [lg_entry_eq]
  generalize (lg_sl ([.ref o, .int x]) ++ List.replicate (2 - (lg_sl ([.ref o, .int x])).length) Slot.unset).toArray = ls at hl ⊢
  replace hl : lv_has ls 2 [(0, .ref o), (1, .int x)] := hl
  have hc := hR.2.1
  refine lv_aload_n hx hb dX6_shelfOf_0 rfl (lv_at hl 0 rfl) ?_
  refine lv_iconst (v := (nI 0)) hx hb dX6_shelfOf_1 (by decide) ?_
  refine va_put (D := (dC, dI)) (ci := 4) (v := .int (nI 0)) (ty := .int) (C := RX6) (T := TX6) (N := 16) hx hb hts hiX6 tyX6 tyX6_ok nmX6 hown hK hP hD hS 0 rfl rfl 0 (by decide) hf25 (fun _ h9 => h9) rfl (by decide +kernel) rfl rfl (Nat.le_of_ble_eq_true rfl) dX6_shelfOf_2 (fun H locs hP hD hS => ?_)
  replace hP : va_P (dC, dI) vwCl [(o, .inr (4, [.int (nI 0), .ref aS, .ref aA, .ref aV, .int sm, .ref aB, .int ln, .int at_, .int wl, .ref aR, .int rm, .int ga, .int fi, .int se, .int ex, .long ha])), (aS, .inl (cI, 96, .inl S))] H := hP
  replace hD : va_D A [(o, .inr (4, [.int (nI 0), .ref aS, .ref aA, .ref aV, .int sm, .ref aB, .int ln, .int at_, .int wl, .ref aR, .int rm, .int ga, .int fi, .int se, .int ex, .long ha])), (aS, .inl (cI, 96, .inl S))] := hD
  refine lv_aload_n hx hb dX6_shelfOf_5 rfl (lv_at hl 0 rfl) ?_
  refine lv_iload_n hx hb dX6_shelfOf_6 rfl (lv_at hl 1 rfl) ?_
  refine vp_callSi (W.runV (As := [.int x]) (rest := []) ⟨hx, hb, hml, hown, hts⟩ (kX6_isRecord l dC dI cI cV cW o 0 aS aA aV sm aB ln at_ wl aR rm ga fi se ex ha S x) (cwV 1 hts gX6_shelfOf_X6_isRecord rfl rfl rfl hdX6_isRecord ⟨Nat.le_of_ble_eq_true rfl, Nat.le_of_ble_eq_true rfl⟩) (pR_V hK hP 0 4 rfl rfl rfl [0, 1] rfl) rfl rfl hl.1 rfl (lv_room (Nat.le_of_ble_eq_true rfl)) dX6_shelfOf_7 ⟨Nat.zero_le _, Nat.zero_le _⟩) (fun r_7 hr_ => ?_)
  subst hr_
  refine b_if_eq (tgt := 22) hx hb dX6_shelfOf_10 (by decide) (fun c_10 => ?_) (fun c_10 => ?_)
  · refine lv_aload_n hx hb dX6_shelfOf_22 rfl (lv_at hl 0 rfl) ?_
    refine lv_iconst (v := (nI 1)) hx hb dX6_shelfOf_23 (by decide) ?_
    have hPc := hP.sub (ws' := [(o, .inr (4, [.int (nI 0), .ref aS, .ref aA, .ref aV, .int sm, .ref aB, .int ln, .int at_, .int wl, .ref aR, .int rm, .int ga, .int fi, .int se, .int ex, .long ha]))]) [0] rfl
    have hDc := hD.sub (ws' := [(o, .inr (4, [.int (nI 0), .ref aS, .ref aA, .ref aV, .int sm, .ref aB, .int ln, .int at_, .int wl, .ref aR, .int rm, .int ga, .int fi, .int se, .int ex, .long ha]))]) [0] (by decide) rfl
    have hFc := va_free (wc := [(o, .inr (4, [.int (nI 0), .ref aS, .ref aA, .ref aV, .int sm, .ref aB, .int ln, .int at_, .int wl, .ref aR, .int rm, .int ga, .int fi, .int se, .int ex, .long ha]))]) hD hS hA [0] rfl
    refine va_calli (va_runV (As := [.int (nI 1)]) (rest := []) ⟨hx, hb, hml, hown, hts⟩ (kX6_fails l dC dI cI cV cW H.size o 0 aS aA aV sm aB ln at_ wl aR rm ga fi se ex ha 1) (cwV 1 hts gX6_shelfOf_X6_fails rfl rfl rfl hdX6_fails ⟨Nat.le_of_ble_eq_true rfl, Nat.le_of_ble_eq_true rfl⟩) (pW_V hK hP hPc hDc 0 4 rfl rfl rfl) rfl rfl hl.1 rfl (lv_room (Nat.le_of_ble_eq_true rfl)) dX6_shelfOf_24 ⟨Nat.zero_le _, Nat.zero_le _⟩) hS (fun q _ h => hFc q h) hFc (fun r_24 u_ t_ H1 locs ht_ hvm_ hw_ hB_ hz_ hk_ hS => ?_)
    obtain ⟨hP1, -, hD1⟩ := hB_
    rw [ht_] at hP1
    obtain ⟨hP, hD⟩ := va_join (wr := [(aS, .inl (cI, 96, .inl S))]) (w1 := [(o, .inr (4, [.int 1, .ref aS, .ref aA, .ref aV, .int sm, .ref aB, .int ln, .int at_, .int wl, .ref aR, .int rm, .int ga, .int fi, .int se, .int ex, .long ha]))]) hP hD [0] [1] rfl rfl (by decide) (by decide) hk_ hFc hP1 hD1
    clear hP1 hD1 hPc hDc hFc hk_ hz_ hvm_ ht_
    generalize H1 = H at hP hS ⊢
    replace hP : va_P (dC, dI) vwCl [(o, .inr (4, [.int 1, .ref aS, .ref aA, .ref aV, .int sm, .ref aB, .int ln, .int at_, .int wl, .ref aR, .int rm, .int ga, .int fi, .int se, .int ex, .long ha])), (aS, .inl (cI, 96, .inl S))] H := hP.sub [1, 0] rfl
    replace hD : va_D A [(o, .inr (4, [.int 1, .ref aS, .ref aA, .ref aV, .int sm, .ref aB, .int ln, .int at_, .int wl, .ref aR, .int rm, .int ga, .int fi, .int se, .int ex, .long ha])), (aS, .inl (cI, 96, .inl S))] := hD.sub [1, 0] (by decide) rfl
    refine W.widen (k := 0) (n := 0) (Nat.le_refl 0) (Nat.le_refl 0) ?_
    have hw_ : r_24 = (nI 0) := hw_
    subst hw_
    have ec_r27_1_o_0 : 1 = (nI (if sIn x 0 (S 0 - 1) = true then 0 else 1)) := by first | rfl | (first | (simp [c_10] <;> rfl))
    have ew_r27_1 : ([(o, .inr (4, [.int 1, .ref aS, .ref aA, .ref aV, .int sm, .ref aB, .int ln, .int at_, .int wl, .ref aR, .int rm, .int ga, .int fi, .int se, .int ex, .long ha])), (aS, .inl (cI, 96, .inl S))] : va_W) = [(o, .inr (4, [.int (nI (if sIn x 0 (S 0 - 1) = true then 0 else 1)), .ref aS, .ref aA, .ref aV, .int sm, .ref aB, .int ln, .int at_, .int wl, .ref aR, .int rm, .int ga, .int fi, .int se, .int ex, .long ha])), (aS, .inl (cI, 96, .inl S))] := (congrArg (fun z_ => ([(o, .inr (4, [.int z_, .ref aS, .ref aA, .ref aV, .int sm, .ref aB, .int ln, .int at_, .int wl, .ref aR, .int rm, .int ga, .int fi, .int se, .int ex, .long ha])), (aS, .inl (cI, 96, .inl S))] : va_W)) ec_r27_1_o_0)
    have hP9 := (w_cgP ew_r27_1 hP)
    have hD9 := (w_cgD ew_r27_1 hD)
    exact W.iret (v := (nI 0)) hx hb hr (fun t ht hW => ⟨⟨(nI 0), (), rfl, (show (nI 0) = (if sIn x 0 (S 0 - 1) = true then gW S 1 (ix x) else 0) from by first | rfl | (first | (simp [c_10] <;> rfl))), by rw [ht]; exact hP9, va_K.moved hW.alike hK, hD9⟩, hS.F ht⟩) hS.2.2 dX6_shelfOf_27
  · obtain ⟨r, hr_0, rfl⟩ := rc_of2 hR c_10
    refine lv_aload_n hx hb dX6_shelfOf_13 rfl (lv_at hl 0 rfl) ?_
    refine lv_iload_n hx hb dX6_shelfOf_14 rfl (lv_at hl 1 rfl) ?_
    refine lv_iconst (v := (nI 1)) hx hb dX6_shelfOf_15 (by decide) ?_
    refine vp_callSi (W.runV (As := [.int (nI r), .int (nI 1)]) (rest := []) ⟨hx, hb, hml, hown, hts⟩ (kX6_of l dC dI cI cV cW o 0 aS aA aV sm aB ln at_ wl aR rm ga fi se ex ha S r 1 (by omega) (by omega)) (cwV 2 hts gX6_shelfOf_X6_of rfl rfl rfl hdX6_of ⟨Nat.le_of_ble_eq_true rfl, Nat.le_of_ble_eq_true rfl⟩) (pR_V hK hP 0 4 rfl rfl rfl [0, 1] rfl) rfl rfl hl.1 rfl (lv_room (Nat.le_of_ble_eq_true rfl)) dX6_shelfOf_16 ⟨Nat.zero_le _, Nat.zero_le _⟩) (fun r_16 hr_ => ?_)
    subst hr_
    refine lv_goto (tgt := 27) hx hb dX6_shelfOf_19 (by decide) ?_
    have ec_r27_2_o_0 : (nI 0) = (nI (if sIn (nI r) 0 (S 0 - 1) = true then 0 else 1)) := by first | rfl | (first | (simp [c_10, ix_nI (show r < 2147483648 by omega)] <;> rfl))
    have ew_r27_2 : ([(o, .inr (4, [.int (nI 0), .ref aS, .ref aA, .ref aV, .int sm, .ref aB, .int ln, .int at_, .int wl, .ref aR, .int rm, .int ga, .int fi, .int se, .int ex, .long ha])), (aS, .inl (cI, 96, .inl S))] : va_W) = [(o, .inr (4, [.int (nI (if sIn (nI r) 0 (S 0 - 1) = true then 0 else 1)), .ref aS, .ref aA, .ref aV, .int sm, .ref aB, .int ln, .int at_, .int wl, .ref aR, .int rm, .int ga, .int fi, .int se, .int ex, .long ha])), (aS, .inl (cI, 96, .inl S))] := (congrArg (fun z_ => ([(o, .inr (4, [.int z_, .ref aS, .ref aA, .ref aV, .int sm, .ref aB, .int ln, .int at_, .int wl, .ref aR, .int rm, .int ga, .int fi, .int se, .int ex, .long ha])), (aS, .inl (cI, 96, .inl S))] : va_W)) ec_r27_2_o_0)
    have hP9 := (w_cgP ew_r27_2 hP)
    have hD9 := (w_cgD ew_r27_2 hD)
    exact W.iret (v := (gW S 1 r)) hx hb hr (fun t ht hW => ⟨⟨(gW S 1 r), (), rfl, (show (gW S 1 r) = (if sIn (nI r) 0 (S 0 - 1) = true then gW S 1 (ix (nI r)) else 0) from by first | rfl | (first | (simp [c_10, ix_nI (show r < 2147483648 by omega)] <;> rfl))), by rw [ht]; exact hP9, va_K.moved hW.alike hK, hD9⟩, hS.F ht⟩) hS.2.2 dX6_shelfOf_27
set_option maxHeartbeats 4000000 in
set_option maxRecDepth 100000 in
theorem kX6_catalog (l : Launch) (dC : Nat → ClassId) (dI : Nat → Nat → Nat) (cI cV cW : ClassId) (sz : Nat) (o : Nat) (th : Int32) (aS : Nat) (aA : Nat) (aV : Nat) (sm : Int32) (aB : Nat) (ln : Int32) (at_ : Int32) (wl : Int32) (aR : Nat) (rm : Int32) (ga : Int32) (fi : Int32) (se : Int32) (ex : Int32) (ha : Int64) (S : Nat → Int32) (cn : Nat) (x : Int32) (hR : RO S cn) : Met l yX6_catalog wsX6_catalog ({ frames := 2, cells := 0, slots := 0, locals := 43 }) (pW (dC, dI) (tyS cI cV cW) sz [.ref o, .int x] [(o, .inr (4, [.int th, .ref aS, .ref aA, .ref aV, .int sm, .ref aB, .int ln, .int at_, .int wl, .ref aR, .int rm, .int ga, .int fi, .int se, .int ex, .long ha])), (aS, .inl (cI, 96, .inl S))]) (va_Qi (fun (r_ : Int32) (_ : Unit) => r_ = (if sIn x 0 (S 0 - 1) = true then gW S 2 (ix x) else 0)) (fun (_ : Unit) t => qB (dC, dI) (tyS cI cV cW) (va_A [(o, .inr (4, [.int th, .ref aS, .ref aA, .ref aV, .int sm, .ref aB, .int ln, .int at_, .int wl, .ref aR, .int rm, .int ga, .int fi, .int se, .int ex, .long ha])), (aS, .inl (cI, 96, .inl S))] sz) [(o, .inr (4, [.int (nI (if sIn x 0 (S 0 - 1) = true then 0 else 1)), .ref aS, .ref aA, .ref aV, .int sm, .ref aB, .int ln, .int at_, .int wl, .ref aR, .int rm, .int ga, .int fi, .int se, .int ex, .long ha])), (aS, .inl (cI, 96, .inl S))] t) (va_A [(o, .inr (4, [.int th, .ref aS, .ref aA, .ref aV, .int sm, .ref aB, .int ln, .int at_, .int wl, .ref aR, .int rm, .int ga, .int fi, .int se, .int ex, .long ha])), (aS, .inl (cI, 96, .inl S))] sz)) 0 0 (va_A [(o, .inr (4, [.int th, .ref aS, .ref aA, .ref aV, .int sm, .ref aB, .int ln, .int at_, .int wl, .ref aR, .int rm, .int ga, .int fi, .int se, .int ex, .long ha])), (aS, .inl (cI, 96, .inl S))] sz) := by
  refine Met.ofW (cc := cX6_catalog) (maxL := 2) (ret := (some .int)) (by decide) rfl ?_
  intro p e s m args below meth c s₁ B hml hv
  obtain ⟨rfl, hsz, hP, hK, hD0⟩ := hv
  have hx := B.exec
  have hb := B.bytes
  have hr := B.returns
  have hts := atoms_spec (ws := wsX6_catalog) B.pre
  have hown : s.vm.findClass RX6 = some m.cls := findClass_of_methodNamed B.named
  have hlocks := B.notSynchronized
  subst hsz
  have hD := hD0.self (sz := s.heap.size)
  generalize hAe : va_A [(o, .inr (4, [.int th, .ref aS, .ref aA, .ref aV, .int sm, .ref aB, .int ln, .int at_, .int wl, .ref aR, .int rm, .int ga, .int fi, .int se, .int ex, .long ha])), (aS, .inl (cI, 96, .inl S))] s.heap.size = A at hD ⊢
  have hA : ∀ q : Nat, s.heap.size ≤ q → A q := fun q h => by rw [← hAe]; exact Or.inr h
  have hS : va_S A s.heap s.heap [] := va_S.rf
  refine w_gen hP hS (fun H locs hP hS => ?_)
  have hf25 := hts (.fieldLink RX6 25 "VaultShelvesModel" "thrown" "I") (by decide +kernel)
  have hiX6 : ∀ w ∈ u_ws RX6 TX6 16, w ∈ wsX6_catalog := by decide +kernel
  have hl := lv_entry ([.ref o, .int x]) (n := 2) (Nat.le_of_ble_eq_true rfl)
  rw [lg_entry_eq]
  generalize (lg_sl ([.ref o, .int x]) ++ List.replicate (2 - (lg_sl ([.ref o, .int x])).length) Slot.unset).toArray = ls at hl ⊢
  replace hl : lv_has ls 2 [(0, .ref o), (1, .int x)] := hl
  have hc := hR.2.1
  refine lv_aload_n hx hb dX6_catalog_0 rfl (lv_at hl 0 rfl) ?_
  refine lv_iconst (v := (nI 0)) hx hb dX6_catalog_1 (by decide) ?_
  refine va_put (D := (dC, dI)) (ci := 4) (v := .int (nI 0)) (ty := .int) (C := RX6) (T := TX6) (N := 16) hx hb hts hiX6 tyX6 tyX6_ok nmX6 hown hK hP hD hS 0 rfl rfl 0 (by decide) hf25 (fun _ h9 => h9) rfl (by decide +kernel) rfl rfl (Nat.le_of_ble_eq_true rfl) dX6_catalog_2 (fun H locs hP hD hS => ?_)
  replace hP : va_P (dC, dI) vwCl [(o, .inr (4, [.int (nI 0), .ref aS, .ref aA, .ref aV, .int sm, .ref aB, .int ln, .int at_, .int wl, .ref aR, .int rm, .int ga, .int fi, .int se, .int ex, .long ha])), (aS, .inl (cI, 96, .inl S))] H := hP
  replace hD : va_D A [(o, .inr (4, [.int (nI 0), .ref aS, .ref aA, .ref aV, .int sm, .ref aB, .int ln, .int at_, .int wl, .ref aR, .int rm, .int ga, .int fi, .int se, .int ex, .long ha])), (aS, .inl (cI, 96, .inl S))] := hD
  refine lv_aload_n hx hb dX6_catalog_5 rfl (lv_at hl 0 rfl) ?_
  refine lv_iload_n hx hb dX6_catalog_6 rfl (lv_at hl 1 rfl) ?_
  refine vp_callSi (W.runV (As := [.int x]) (rest := []) ⟨hx, hb, hml, hown, hts⟩ (kX6_isRecord l dC dI cI cV cW o 0 aS aA aV sm aB ln at_ wl aR rm ga fi se ex ha S x) (cwV 1 hts gX6_catalog_X6_isRecord rfl rfl rfl hdX6_isRecord ⟨Nat.le_of_ble_eq_true rfl, Nat.le_of_ble_eq_true rfl⟩) (pR_V hK hP 0 4 rfl rfl rfl [0, 1] rfl) rfl rfl hl.1 rfl (lv_room (Nat.le_of_ble_eq_true rfl)) dX6_catalog_7 ⟨Nat.zero_le _, Nat.zero_le _⟩) (fun r_7 hr_ => ?_)
  subst hr_
  refine b_if_eq (tgt := 22) hx hb dX6_catalog_10 (by decide) (fun c_10 => ?_) (fun c_10 => ?_)
  · refine lv_aload_n hx hb dX6_catalog_22 rfl (lv_at hl 0 rfl) ?_
    refine lv_iconst (v := (nI 1)) hx hb dX6_catalog_23 (by decide) ?_
    have hPc := hP.sub (ws' := [(o, .inr (4, [.int (nI 0), .ref aS, .ref aA, .ref aV, .int sm, .ref aB, .int ln, .int at_, .int wl, .ref aR, .int rm, .int ga, .int fi, .int se, .int ex, .long ha]))]) [0] rfl
    have hDc := hD.sub (ws' := [(o, .inr (4, [.int (nI 0), .ref aS, .ref aA, .ref aV, .int sm, .ref aB, .int ln, .int at_, .int wl, .ref aR, .int rm, .int ga, .int fi, .int se, .int ex, .long ha]))]) [0] (by decide) rfl
    have hFc := va_free (wc := [(o, .inr (4, [.int (nI 0), .ref aS, .ref aA, .ref aV, .int sm, .ref aB, .int ln, .int at_, .int wl, .ref aR, .int rm, .int ga, .int fi, .int se, .int ex, .long ha]))]) hD hS hA [0] rfl
    refine va_calli (va_runV (As := [.int (nI 1)]) (rest := []) ⟨hx, hb, hml, hown, hts⟩ (kX6_fails l dC dI cI cV cW H.size o 0 aS aA aV sm aB ln at_ wl aR rm ga fi se ex ha 1) (cwV 1 hts gX6_catalog_X6_fails rfl rfl rfl hdX6_fails ⟨Nat.le_of_ble_eq_true rfl, Nat.le_of_ble_eq_true rfl⟩) (pW_V hK hP hPc hDc 0 4 rfl rfl rfl) rfl rfl hl.1 rfl (lv_room (Nat.le_of_ble_eq_true rfl)) dX6_catalog_24 ⟨Nat.zero_le _, Nat.zero_le _⟩) hS (fun q _ h => hFc q h) hFc (fun r_24 u_ t_ H1 locs ht_ hvm_ hw_ hB_ hz_ hk_ hS => ?_)
    obtain ⟨hP1, -, hD1⟩ := hB_
    rw [ht_] at hP1
    obtain ⟨hP, hD⟩ := va_join (wr := [(aS, .inl (cI, 96, .inl S))]) (w1 := [(o, .inr (4, [.int 1, .ref aS, .ref aA, .ref aV, .int sm, .ref aB, .int ln, .int at_, .int wl, .ref aR, .int rm, .int ga, .int fi, .int se, .int ex, .long ha]))]) hP hD [0] [1] rfl rfl (by decide) (by decide) hk_ hFc hP1 hD1
    clear hP1 hD1 hPc hDc hFc hk_ hz_ hvm_ ht_
    generalize H1 = H at hP hS ⊢
    replace hP : va_P (dC, dI) vwCl [(o, .inr (4, [.int 1, .ref aS, .ref aA, .ref aV, .int sm, .ref aB, .int ln, .int at_, .int wl, .ref aR, .int rm, .int ga, .int fi, .int se, .int ex, .long ha])), (aS, .inl (cI, 96, .inl S))] H := hP.sub [1, 0] rfl
    replace hD : va_D A [(o, .inr (4, [.int 1, .ref aS, .ref aA, .ref aV, .int sm, .ref aB, .int ln, .int at_, .int wl, .ref aR, .int rm, .int ga, .int fi, .int se, .int ex, .long ha])), (aS, .inl (cI, 96, .inl S))] := hD.sub [1, 0] (by decide) rfl
    refine W.widen (k := 0) (n := 0) (Nat.le_refl 0) (Nat.le_refl 0) ?_
    have hw_ : r_24 = (nI 0) := hw_
    subst hw_
    have ec_r27_1_o_0 : 1 = (nI (if sIn x 0 (S 0 - 1) = true then 0 else 1)) := by first | rfl | (first | (simp [c_10] <;> rfl))
    have ew_r27_1 : ([(o, .inr (4, [.int 1, .ref aS, .ref aA, .ref aV, .int sm, .ref aB, .int ln, .int at_, .int wl, .ref aR, .int rm, .int ga, .int fi, .int se, .int ex, .long ha])), (aS, .inl (cI, 96, .inl S))] : va_W) = [(o, .inr (4, [.int (nI (if sIn x 0 (S 0 - 1) = true then 0 else 1)), .ref aS, .ref aA, .ref aV, .int sm, .ref aB, .int ln, .int at_, .int wl, .ref aR, .int rm, .int ga, .int fi, .int se, .int ex, .long ha])), (aS, .inl (cI, 96, .inl S))] := (congrArg (fun z_ => ([(o, .inr (4, [.int z_, .ref aS, .ref aA, .ref aV, .int sm, .ref aB, .int ln, .int at_, .int wl, .ref aR, .int rm, .int ga, .int fi, .int se, .int ex, .long ha])), (aS, .inl (cI, 96, .inl S))] : va_W)) ec_r27_1_o_0)
    have hP9 := (w_cgP ew_r27_1 hP)
    have hD9 := (w_cgD ew_r27_1 hD)
    exact W.iret (v := (nI 0)) hx hb hr (fun t ht hW => ⟨⟨(nI 0), (), rfl, (show (nI 0) = (if sIn x 0 (S 0 - 1) = true then gW S 2 (ix x) else 0) from by first | rfl | (first | (simp [c_10] <;> rfl))), by rw [ht]; exact hP9, va_K.moved hW.alike hK, hD9⟩, hS.F ht⟩) hS.2.2 dX6_catalog_27
  · obtain ⟨r, hr_0, rfl⟩ := rc_of2 hR c_10
    refine lv_aload_n hx hb dX6_catalog_13 rfl (lv_at hl 0 rfl) ?_
    refine lv_iload_n hx hb dX6_catalog_14 rfl (lv_at hl 1 rfl) ?_
    refine lv_iconst (v := (nI 2)) hx hb dX6_catalog_15 (by decide) ?_
    refine vp_callSi (W.runV (As := [.int (nI r), .int (nI 2)]) (rest := []) ⟨hx, hb, hml, hown, hts⟩ (kX6_of l dC dI cI cV cW o 0 aS aA aV sm aB ln at_ wl aR rm ga fi se ex ha S r 2 (by omega) (by omega)) (cwV 2 hts gX6_catalog_X6_of rfl rfl rfl hdX6_of ⟨Nat.le_of_ble_eq_true rfl, Nat.le_of_ble_eq_true rfl⟩) (pR_V hK hP 0 4 rfl rfl rfl [0, 1] rfl) rfl rfl hl.1 rfl (lv_room (Nat.le_of_ble_eq_true rfl)) dX6_catalog_16 ⟨Nat.zero_le _, Nat.zero_le _⟩) (fun r_16 hr_ => ?_)
    subst hr_
    refine lv_goto (tgt := 27) hx hb dX6_catalog_19 (by decide) ?_
    have ec_r27_2_o_0 : (nI 0) = (nI (if sIn (nI r) 0 (S 0 - 1) = true then 0 else 1)) := by first | rfl | (first | (simp [c_10, ix_nI (show r < 2147483648 by omega)] <;> rfl))
    have ew_r27_2 : ([(o, .inr (4, [.int (nI 0), .ref aS, .ref aA, .ref aV, .int sm, .ref aB, .int ln, .int at_, .int wl, .ref aR, .int rm, .int ga, .int fi, .int se, .int ex, .long ha])), (aS, .inl (cI, 96, .inl S))] : va_W) = [(o, .inr (4, [.int (nI (if sIn (nI r) 0 (S 0 - 1) = true then 0 else 1)), .ref aS, .ref aA, .ref aV, .int sm, .ref aB, .int ln, .int at_, .int wl, .ref aR, .int rm, .int ga, .int fi, .int se, .int ex, .long ha])), (aS, .inl (cI, 96, .inl S))] := (congrArg (fun z_ => ([(o, .inr (4, [.int z_, .ref aS, .ref aA, .ref aV, .int sm, .ref aB, .int ln, .int at_, .int wl, .ref aR, .int rm, .int ga, .int fi, .int se, .int ex, .long ha])), (aS, .inl (cI, 96, .inl S))] : va_W)) ec_r27_2_o_0)
    have hP9 := (w_cgP ew_r27_2 hP)
    have hD9 := (w_cgD ew_r27_2 hD)
    exact W.iret (v := (gW S 2 r)) hx hb hr (fun t ht hW => ⟨⟨(gW S 2 r), (), rfl, (show (gW S 2 r) = (if sIn (nI r) 0 (S 0 - 1) = true then gW S 2 (ix (nI r)) else 0) from by first | rfl | (first | (simp [c_10, ix_nI (show r < 2147483648 by omega)] <;> rfl))), by rw [ht]; exact hP9, va_K.moved hW.alike hK, hD9⟩, hS.F ht⟩) hS.2.2 dX6_catalog_27
set_option maxHeartbeats 4000000 in
set_option maxRecDepth 100000 in
theorem kX6_weight (l : Launch) (dC : Nat → ClassId) (dI : Nat → Nat → Nat) (cI cV cW : ClassId) (sz : Nat) (o : Nat) (th : Int32) (aS : Nat) (aA : Nat) (aV : Nat) (sm : Int32) (aB : Nat) (ln : Int32) (at_ : Int32) (wl : Int32) (aR : Nat) (rm : Int32) (ga : Int32) (fi : Int32) (se : Int32) (ex : Int32) (ha : Int64) (S : Nat → Int32) (cn : Nat) (x : Int32) (hR : RO S cn) : Met l yX6_weight wsX6_weight ({ frames := 2, cells := 0, slots := 0, locals := 43 }) (pW (dC, dI) (tyS cI cV cW) sz [.ref o, .int x] [(o, .inr (4, [.int th, .ref aS, .ref aA, .ref aV, .int sm, .ref aB, .int ln, .int at_, .int wl, .ref aR, .int rm, .int ga, .int fi, .int se, .int ex, .long ha])), (aS, .inl (cI, 96, .inl S))]) (va_Qi (fun (r_ : Int32) (_ : Unit) => r_ = (if sIn x 0 (S 0 - 1) = true then sHf (gW S 3) (gW S 4) (ix x) else 0)) (fun (_ : Unit) t => qB (dC, dI) (tyS cI cV cW) (va_A [(o, .inr (4, [.int th, .ref aS, .ref aA, .ref aV, .int sm, .ref aB, .int ln, .int at_, .int wl, .ref aR, .int rm, .int ga, .int fi, .int se, .int ex, .long ha])), (aS, .inl (cI, 96, .inl S))] sz) [(o, .inr (4, [.int (nI (if sIn x 0 (S 0 - 1) = true then 0 else 1)), .ref aS, .ref aA, .ref aV, .int sm, .ref aB, .int ln, .int at_, .int wl, .ref aR, .int rm, .int ga, .int fi, .int se, .int ex, .long ha])), (aS, .inl (cI, 96, .inl S))] t) (va_A [(o, .inr (4, [.int th, .ref aS, .ref aA, .ref aV, .int sm, .ref aB, .int ln, .int at_, .int wl, .ref aR, .int rm, .int ga, .int fi, .int se, .int ex, .long ha])), (aS, .inl (cI, 96, .inl S))] sz)) 0 0 (va_A [(o, .inr (4, [.int th, .ref aS, .ref aA, .ref aV, .int sm, .ref aB, .int ln, .int at_, .int wl, .ref aR, .int rm, .int ga, .int fi, .int se, .int ex, .long ha])), (aS, .inl (cI, 96, .inl S))] sz) := by
  refine Met.ofW (cc := cX6_weight) (maxL := 2) (ret := (some .int)) (by decide) rfl ?_
  intro p e s m args below meth c s₁ B hml hv
  obtain ⟨rfl, hsz, hP, hK, hD0⟩ := hv
  have hx := B.exec
  have hb := B.bytes
  have hr := B.returns
  have hts := atoms_spec (ws := wsX6_weight) B.pre
  have hown : s.vm.findClass RX6 = some m.cls := findClass_of_methodNamed B.named
  have hlocks := B.notSynchronized
  subst hsz
  have hD := hD0.self (sz := s.heap.size)
  generalize hAe : va_A [(o, .inr (4, [.int th, .ref aS, .ref aA, .ref aV, .int sm, .ref aB, .int ln, .int at_, .int wl, .ref aR, .int rm, .int ga, .int fi, .int se, .int ex, .long ha])), (aS, .inl (cI, 96, .inl S))] s.heap.size = A at hD ⊢
  have hA : ∀ q : Nat, s.heap.size ≤ q → A q := fun q h => by rw [← hAe]; exact Or.inr h
  have hS : va_S A s.heap s.heap [] := va_S.rf
  refine w_gen hP hS (fun H locs hP hS => ?_)
  have hf25 := hts (.fieldLink RX6 25 "VaultShelvesModel" "thrown" "I") (by decide +kernel)
  have hiX6 : ∀ w ∈ u_ws RX6 TX6 16, w ∈ wsX6_weight := by decide +kernel
  have hl := lv_entry ([.ref o, .int x]) (n := 2) (Nat.le_of_ble_eq_true rfl)
  rw [lg_entry_eq]
  generalize (lg_sl ([.ref o, .int x]) ++ List.replicate (2 - (lg_sl ([.ref o, .int x])).length) Slot.unset).toArray = ls at hl ⊢
  replace hl : lv_has ls 2 [(0, .ref o), (1, .int x)] := hl
  have hc := hR.2.1
  refine lv_aload_n hx hb dX6_weight_0 rfl (lv_at hl 0 rfl) ?_
  refine lv_iconst (v := (nI 0)) hx hb dX6_weight_1 (by decide) ?_
  refine va_put (D := (dC, dI)) (ci := 4) (v := .int (nI 0)) (ty := .int) (C := RX6) (T := TX6) (N := 16) hx hb hts hiX6 tyX6 tyX6_ok nmX6 hown hK hP hD hS 0 rfl rfl 0 (by decide) hf25 (fun _ h9 => h9) rfl (by decide +kernel) rfl rfl (Nat.le_of_ble_eq_true rfl) dX6_weight_2 (fun H locs hP hD hS => ?_)
  replace hP : va_P (dC, dI) vwCl [(o, .inr (4, [.int (nI 0), .ref aS, .ref aA, .ref aV, .int sm, .ref aB, .int ln, .int at_, .int wl, .ref aR, .int rm, .int ga, .int fi, .int se, .int ex, .long ha])), (aS, .inl (cI, 96, .inl S))] H := hP
  replace hD : va_D A [(o, .inr (4, [.int (nI 0), .ref aS, .ref aA, .ref aV, .int sm, .ref aB, .int ln, .int at_, .int wl, .ref aR, .int rm, .int ga, .int fi, .int se, .int ex, .long ha])), (aS, .inl (cI, 96, .inl S))] := hD
  refine lv_aload_n hx hb dX6_weight_5 rfl (lv_at hl 0 rfl) ?_
  refine lv_iload_n hx hb dX6_weight_6 rfl (lv_at hl 1 rfl) ?_
  refine vp_callSi (W.runV (As := [.int x]) (rest := []) ⟨hx, hb, hml, hown, hts⟩ (kX6_isRecord l dC dI cI cV cW o 0 aS aA aV sm aB ln at_ wl aR rm ga fi se ex ha S x) (cwV 1 hts gX6_weight_X6_isRecord rfl rfl rfl hdX6_isRecord ⟨Nat.le_of_ble_eq_true rfl, Nat.le_of_ble_eq_true rfl⟩) (pR_V hK hP 0 4 rfl rfl rfl [0, 1] rfl) rfl rfl hl.1 rfl (lv_room (Nat.le_of_ble_eq_true rfl)) dX6_weight_7 ⟨Nat.zero_le _, Nat.zero_le _⟩) (fun r_7 hr_ => ?_)
  subst hr_
  refine b_if_eq (tgt := 21) hx hb dX6_weight_10 (by decide) (fun c_10 => ?_) (fun c_10 => ?_)
  · refine lv_aload_n hx hb dX6_weight_21 rfl (lv_at hl 0 rfl) ?_
    refine lv_iconst (v := (nI 1)) hx hb dX6_weight_22 (by decide) ?_
    have hPc := hP.sub (ws' := [(o, .inr (4, [.int (nI 0), .ref aS, .ref aA, .ref aV, .int sm, .ref aB, .int ln, .int at_, .int wl, .ref aR, .int rm, .int ga, .int fi, .int se, .int ex, .long ha]))]) [0] rfl
    have hDc := hD.sub (ws' := [(o, .inr (4, [.int (nI 0), .ref aS, .ref aA, .ref aV, .int sm, .ref aB, .int ln, .int at_, .int wl, .ref aR, .int rm, .int ga, .int fi, .int se, .int ex, .long ha]))]) [0] (by decide) rfl
    have hFc := va_free (wc := [(o, .inr (4, [.int (nI 0), .ref aS, .ref aA, .ref aV, .int sm, .ref aB, .int ln, .int at_, .int wl, .ref aR, .int rm, .int ga, .int fi, .int se, .int ex, .long ha]))]) hD hS hA [0] rfl
    refine va_calli (va_runV (As := [.int (nI 1)]) (rest := []) ⟨hx, hb, hml, hown, hts⟩ (kX6_fails l dC dI cI cV cW H.size o 0 aS aA aV sm aB ln at_ wl aR rm ga fi se ex ha 1) (cwV 1 hts gX6_weight_X6_fails rfl rfl rfl hdX6_fails ⟨Nat.le_of_ble_eq_true rfl, Nat.le_of_ble_eq_true rfl⟩) (pW_V hK hP hPc hDc 0 4 rfl rfl rfl) rfl rfl hl.1 rfl (lv_room (Nat.le_of_ble_eq_true rfl)) dX6_weight_23 ⟨Nat.zero_le _, Nat.zero_le _⟩) hS (fun q _ h => hFc q h) hFc (fun r_23 u_ t_ H1 locs ht_ hvm_ hw_ hB_ hz_ hk_ hS => ?_)
    obtain ⟨hP1, -, hD1⟩ := hB_
    rw [ht_] at hP1
    obtain ⟨hP, hD⟩ := va_join (wr := [(aS, .inl (cI, 96, .inl S))]) (w1 := [(o, .inr (4, [.int 1, .ref aS, .ref aA, .ref aV, .int sm, .ref aB, .int ln, .int at_, .int wl, .ref aR, .int rm, .int ga, .int fi, .int se, .int ex, .long ha]))]) hP hD [0] [1] rfl rfl (by decide) (by decide) hk_ hFc hP1 hD1
    clear hP1 hD1 hPc hDc hFc hk_ hz_ hvm_ ht_
    generalize H1 = H at hP hS ⊢
    replace hP : va_P (dC, dI) vwCl [(o, .inr (4, [.int 1, .ref aS, .ref aA, .ref aV, .int sm, .ref aB, .int ln, .int at_, .int wl, .ref aR, .int rm, .int ga, .int fi, .int se, .int ex, .long ha])), (aS, .inl (cI, 96, .inl S))] H := hP.sub [1, 0] rfl
    replace hD : va_D A [(o, .inr (4, [.int 1, .ref aS, .ref aA, .ref aV, .int sm, .ref aB, .int ln, .int at_, .int wl, .ref aR, .int rm, .int ga, .int fi, .int se, .int ex, .long ha])), (aS, .inl (cI, 96, .inl S))] := hD.sub [1, 0] (by decide) rfl
    refine W.widen (k := 0) (n := 0) (Nat.le_refl 0) (Nat.le_refl 0) ?_
    have hw_ : r_23 = (nI 0) := hw_
    subst hw_
    have ec_r26_1_o_0 : 1 = (nI (if sIn x 0 (S 0 - 1) = true then 0 else 1)) := by first | rfl | (first | (simp [c_10] <;> rfl))
    have ew_r26_1 : ([(o, .inr (4, [.int 1, .ref aS, .ref aA, .ref aV, .int sm, .ref aB, .int ln, .int at_, .int wl, .ref aR, .int rm, .int ga, .int fi, .int se, .int ex, .long ha])), (aS, .inl (cI, 96, .inl S))] : va_W) = [(o, .inr (4, [.int (nI (if sIn x 0 (S 0 - 1) = true then 0 else 1)), .ref aS, .ref aA, .ref aV, .int sm, .ref aB, .int ln, .int at_, .int wl, .ref aR, .int rm, .int ga, .int fi, .int se, .int ex, .long ha])), (aS, .inl (cI, 96, .inl S))] := (congrArg (fun z_ => ([(o, .inr (4, [.int z_, .ref aS, .ref aA, .ref aV, .int sm, .ref aB, .int ln, .int at_, .int wl, .ref aR, .int rm, .int ga, .int fi, .int se, .int ex, .long ha])), (aS, .inl (cI, 96, .inl S))] : va_W)) ec_r26_1_o_0)
    have hP9 := (w_cgP ew_r26_1 hP)
    have hD9 := (w_cgD ew_r26_1 hD)
    exact W.iret (v := (nI 0)) hx hb hr (fun t ht hW => ⟨⟨(nI 0), (), rfl, (show (nI 0) = (if sIn x 0 (S 0 - 1) = true then sHf (gW S 3) (gW S 4) (ix x) else 0) from by first | rfl | (first | (simp [c_10] <;> rfl))), by rw [ht]; exact hP9, va_K.moved hW.alike hK, hD9⟩, hS.F ht⟩) hS.2.2 dX6_weight_26
  · obtain ⟨r, hr_0, rfl⟩ := rc_of2 hR c_10
    refine lv_aload_n hx hb dX6_weight_13 rfl (lv_at hl 0 rfl) ?_
    refine lv_iload_n hx hb dX6_weight_14 rfl (lv_at hl 1 rfl) ?_
    refine vp_callSi (W.runV (As := [.int (nI r)]) (rest := []) ⟨hx, hb, hml, hown, hts⟩ (kX6_heft l dC dI cI cV cW o 0 aS aA aV sm aB ln at_ wl aR rm ga fi se ex ha S r (by omega)) (cwV 1 hts gX6_weight_X6_heft rfl rfl rfl hdX6_heft ⟨Nat.le_of_ble_eq_true rfl, Nat.le_of_ble_eq_true rfl⟩) (pR_V hK hP 0 4 rfl rfl rfl [0, 1] rfl) rfl rfl hl.1 rfl (lv_room (Nat.le_of_ble_eq_true rfl)) dX6_weight_15 ⟨Nat.zero_le _, Nat.zero_le _⟩) (fun r_15 hr_ => ?_)
    subst hr_
    refine lv_goto (tgt := 26) hx hb dX6_weight_18 (by decide) ?_
    have ec_r26_2_o_0 : (nI 0) = (nI (if sIn (nI r) 0 (S 0 - 1) = true then 0 else 1)) := by first | rfl | (first | (simp [c_10, ix_nI (show r < 2147483648 by omega)] <;> rfl))
    have ew_r26_2 : ([(o, .inr (4, [.int (nI 0), .ref aS, .ref aA, .ref aV, .int sm, .ref aB, .int ln, .int at_, .int wl, .ref aR, .int rm, .int ga, .int fi, .int se, .int ex, .long ha])), (aS, .inl (cI, 96, .inl S))] : va_W) = [(o, .inr (4, [.int (nI (if sIn (nI r) 0 (S 0 - 1) = true then 0 else 1)), .ref aS, .ref aA, .ref aV, .int sm, .ref aB, .int ln, .int at_, .int wl, .ref aR, .int rm, .int ga, .int fi, .int se, .int ex, .long ha])), (aS, .inl (cI, 96, .inl S))] := (congrArg (fun z_ => ([(o, .inr (4, [.int z_, .ref aS, .ref aA, .ref aV, .int sm, .ref aB, .int ln, .int at_, .int wl, .ref aR, .int rm, .int ga, .int fi, .int se, .int ex, .long ha])), (aS, .inl (cI, 96, .inl S))] : va_W)) ec_r26_2_o_0)
    have hP9 := (w_cgP ew_r26_2 hP)
    have hD9 := (w_cgD ew_r26_2 hD)
    exact W.iret (v := (sHf (gW S 3) (gW S 4) r)) hx hb hr (fun t ht hW => ⟨⟨(sHf (gW S 3) (gW S 4) r), (), rfl, (show (sHf (gW S 3) (gW S 4) r) = (if sIn (nI r) 0 (S 0 - 1) = true then sHf (gW S 3) (gW S 4) (ix (nI r)) else 0) from by first | rfl | (first | (simp [c_10, ix_nI (show r < 2147483648 by omega)] <;> rfl))), by rw [ht]; exact hP9, va_K.moved hW.alike hK, hD9⟩, hS.F ht⟩) hS.2.2 dX6_weight_26
set_option maxHeartbeats 4000000 in
set_option maxRecDepth 100000 in
theorem kX6_walkTo (l : Launch) (dC : Nat → ClassId) (dI : Nat → Nat → Nat) (cI cV cW : ClassId) (sz : Nat) (o : Nat) (th : Int32) (aS : Nat) (aA : Nat) (aV : Nat) (sm : Int32) (aB : Nat) (ln : Int32) (at_ : Int32) (wl : Int32) (aR : Nat) (rm : Int32) (ga : Int32) (fi : Int32) (se : Int32) (ex : Int32) (ha : Int64) (S : Nat → Int32) (cn : Nat) (x : Int32) (hR : RO S cn) : Met l yX6_walkTo wsX6_walkTo ({ frames := 3, cells := 0, slots := 0, locals := 67 }) (pW (dC, dI) (tyS cI cV cW) sz [.ref o, .int x] [(o, .inr (4, [.int th, .ref aS, .ref aA, .ref aV, .int sm, .ref aB, .int ln, .int at_, .int wl, .ref aR, .int rm, .int ga, .int fi, .int se, .int ex, .long ha])), (aS, .inl (cI, 96, .inl S))]) (va_Qi (fun (r_ : Int32) (_ : Unit) => r_ = (if sIn x 0 (S 0 - 1) = true then sWalk (gQ S) (gW S 1) (gW S 2) (ix x) else 0)) (fun (_ : Unit) t => qB (dC, dI) (tyS cI cV cW) (va_A [(o, .inr (4, [.int th, .ref aS, .ref aA, .ref aV, .int sm, .ref aB, .int ln, .int at_, .int wl, .ref aR, .int rm, .int ga, .int fi, .int se, .int ex, .long ha])), (aS, .inl (cI, 96, .inl S))] sz) [(o, .inr (4, [.int (nI (if sIn x 0 (S 0 - 1) = true then 0 else 1)), .ref aS, .ref aA, .ref aV, .int sm, .ref aB, .int ln, .int at_, .int wl, .ref aR, .int rm, .int ga, .int fi, .int se, .int ex, .long ha])), (aS, .inl (cI, 96, .inl S))] t) (va_A [(o, .inr (4, [.int th, .ref aS, .ref aA, .ref aV, .int sm, .ref aB, .int ln, .int at_, .int wl, .ref aR, .int rm, .int ga, .int fi, .int se, .int ex, .long ha])), (aS, .inl (cI, 96, .inl S))] sz)) 0 0 (va_A [(o, .inr (4, [.int th, .ref aS, .ref aA, .ref aV, .int sm, .ref aB, .int ln, .int at_, .int wl, .ref aR, .int rm, .int ga, .int fi, .int se, .int ex, .long ha])), (aS, .inl (cI, 96, .inl S))] sz) := by
  refine Met.ofW (cc := cX6_walkTo) (maxL := 2) (ret := (some .int)) (by decide) rfl ?_
  intro p e s m args below meth c s₁ B hml hv
  obtain ⟨rfl, hsz, hP, hK, hD0⟩ := hv
  have hx := B.exec
  have hb := B.bytes
  have hr := B.returns
  have hts := atoms_spec (ws := wsX6_walkTo) B.pre
  have hown : s.vm.findClass RX6 = some m.cls := findClass_of_methodNamed B.named
  have hlocks := B.notSynchronized
  subst hsz
  have hD := hD0.self (sz := s.heap.size)
  generalize hAe : va_A [(o, .inr (4, [.int th, .ref aS, .ref aA, .ref aV, .int sm, .ref aB, .int ln, .int at_, .int wl, .ref aR, .int rm, .int ga, .int fi, .int se, .int ex, .long ha])), (aS, .inl (cI, 96, .inl S))] s.heap.size = A at hD ⊢
  have hA : ∀ q : Nat, s.heap.size ≤ q → A q := fun q h => by rw [← hAe]; exact Or.inr h
  have hS : va_S A s.heap s.heap [] := va_S.rf
  refine w_gen hP hS (fun H locs hP hS => ?_)
  have hf25 := hts (.fieldLink RX6 25 "VaultShelvesModel" "thrown" "I") (by decide +kernel)
  have hiX6 : ∀ w ∈ u_ws RX6 TX6 16, w ∈ wsX6_walkTo := by decide +kernel
  have hl := lv_entry ([.ref o, .int x]) (n := 2) (Nat.le_of_ble_eq_true rfl)
  rw [lg_entry_eq]
  generalize (lg_sl ([.ref o, .int x]) ++ List.replicate (2 - (lg_sl ([.ref o, .int x])).length) Slot.unset).toArray = ls at hl ⊢
  replace hl : lv_has ls 2 [(0, .ref o), (1, .int x)] := hl
  have hc := hR.2.1
  refine lv_aload_n hx hb dX6_walkTo_0 rfl (lv_at hl 0 rfl) ?_
  refine lv_iconst (v := (nI 0)) hx hb dX6_walkTo_1 (by decide) ?_
  refine va_put (D := (dC, dI)) (ci := 4) (v := .int (nI 0)) (ty := .int) (C := RX6) (T := TX6) (N := 16) hx hb hts hiX6 tyX6 tyX6_ok nmX6 hown hK hP hD hS 0 rfl rfl 0 (by decide) hf25 (fun _ h9 => h9) rfl (by decide +kernel) rfl rfl (Nat.le_of_ble_eq_true rfl) dX6_walkTo_2 (fun H locs hP hD hS => ?_)
  replace hP : va_P (dC, dI) vwCl [(o, .inr (4, [.int (nI 0), .ref aS, .ref aA, .ref aV, .int sm, .ref aB, .int ln, .int at_, .int wl, .ref aR, .int rm, .int ga, .int fi, .int se, .int ex, .long ha])), (aS, .inl (cI, 96, .inl S))] H := hP
  replace hD : va_D A [(o, .inr (4, [.int (nI 0), .ref aS, .ref aA, .ref aV, .int sm, .ref aB, .int ln, .int at_, .int wl, .ref aR, .int rm, .int ga, .int fi, .int se, .int ex, .long ha])), (aS, .inl (cI, 96, .inl S))] := hD
  refine lv_aload_n hx hb dX6_walkTo_5 rfl (lv_at hl 0 rfl) ?_
  refine lv_iload_n hx hb dX6_walkTo_6 rfl (lv_at hl 1 rfl) ?_
  refine vp_callSi (W.runV (As := [.int x]) (rest := []) ⟨hx, hb, hml, hown, hts⟩ (kX6_isRecord l dC dI cI cV cW o 0 aS aA aV sm aB ln at_ wl aR rm ga fi se ex ha S x) (cwV 1 hts gX6_walkTo_X6_isRecord rfl rfl rfl hdX6_isRecord ⟨Nat.le_of_ble_eq_true rfl, Nat.le_of_ble_eq_true rfl⟩) (pR_V hK hP 0 4 rfl rfl rfl [0, 1] rfl) rfl rfl hl.1 rfl (lv_room (Nat.le_of_ble_eq_true rfl)) dX6_walkTo_7 ⟨Nat.zero_le _, Nat.zero_le _⟩) (fun r_7 hr_ => ?_)
  subst hr_
  refine b_if_eq (tgt := 21) hx hb dX6_walkTo_10 (by decide) (fun c_10 => ?_) (fun c_10 => ?_)
  · refine lv_aload_n hx hb dX6_walkTo_21 rfl (lv_at hl 0 rfl) ?_
    refine lv_iconst (v := (nI 1)) hx hb dX6_walkTo_22 (by decide) ?_
    have hPc := hP.sub (ws' := [(o, .inr (4, [.int (nI 0), .ref aS, .ref aA, .ref aV, .int sm, .ref aB, .int ln, .int at_, .int wl, .ref aR, .int rm, .int ga, .int fi, .int se, .int ex, .long ha]))]) [0] rfl
    have hDc := hD.sub (ws' := [(o, .inr (4, [.int (nI 0), .ref aS, .ref aA, .ref aV, .int sm, .ref aB, .int ln, .int at_, .int wl, .ref aR, .int rm, .int ga, .int fi, .int se, .int ex, .long ha]))]) [0] (by decide) rfl
    have hFc := va_free (wc := [(o, .inr (4, [.int (nI 0), .ref aS, .ref aA, .ref aV, .int sm, .ref aB, .int ln, .int at_, .int wl, .ref aR, .int rm, .int ga, .int fi, .int se, .int ex, .long ha]))]) hD hS hA [0] rfl
    refine va_calli (va_runV (As := [.int (nI 1)]) (rest := []) ⟨hx, hb, hml, hown, hts⟩ (kX6_fails l dC dI cI cV cW H.size o 0 aS aA aV sm aB ln at_ wl aR rm ga fi se ex ha 1) (cwV 1 hts gX6_walkTo_X6_fails rfl rfl rfl hdX6_fails ⟨Nat.le_of_ble_eq_true rfl, Nat.le_of_ble_eq_true rfl⟩) (pW_V hK hP hPc hDc 0 4 rfl rfl rfl) rfl rfl hl.1 rfl (lv_room (Nat.le_of_ble_eq_true rfl)) dX6_walkTo_23 ⟨Nat.zero_le _, Nat.zero_le _⟩) hS (fun q _ h => hFc q h) hFc (fun r_23 u_ t_ H1 locs ht_ hvm_ hw_ hB_ hz_ hk_ hS => ?_)
    obtain ⟨hP1, -, hD1⟩ := hB_
    rw [ht_] at hP1
    obtain ⟨hP, hD⟩ := va_join (wr := [(aS, .inl (cI, 96, .inl S))]) (w1 := [(o, .inr (4, [.int 1, .ref aS, .ref aA, .ref aV, .int sm, .ref aB, .int ln, .int at_, .int wl, .ref aR, .int rm, .int ga, .int fi, .int se, .int ex, .long ha]))]) hP hD [0] [1] rfl rfl (by decide) (by decide) hk_ hFc hP1 hD1
    clear hP1 hD1 hPc hDc hFc hk_ hz_ hvm_ ht_
    generalize H1 = H at hP hS ⊢
    replace hP : va_P (dC, dI) vwCl [(o, .inr (4, [.int 1, .ref aS, .ref aA, .ref aV, .int sm, .ref aB, .int ln, .int at_, .int wl, .ref aR, .int rm, .int ga, .int fi, .int se, .int ex, .long ha])), (aS, .inl (cI, 96, .inl S))] H := hP.sub [1, 0] rfl
    replace hD : va_D A [(o, .inr (4, [.int 1, .ref aS, .ref aA, .ref aV, .int sm, .ref aB, .int ln, .int at_, .int wl, .ref aR, .int rm, .int ga, .int fi, .int se, .int ex, .long ha])), (aS, .inl (cI, 96, .inl S))] := hD.sub [1, 0] (by decide) rfl
    refine W.widen (k := 0) (n := 0) (Nat.le_refl 0) (Nat.le_refl 0) ?_
    have hw_ : r_23 = (nI 0) := hw_
    subst hw_
    have ec_r26_1_o_0 : 1 = (nI (if sIn x 0 (S 0 - 1) = true then 0 else 1)) := by first | rfl | (first | (simp [c_10] <;> rfl))
    have ew_r26_1 : ([(o, .inr (4, [.int 1, .ref aS, .ref aA, .ref aV, .int sm, .ref aB, .int ln, .int at_, .int wl, .ref aR, .int rm, .int ga, .int fi, .int se, .int ex, .long ha])), (aS, .inl (cI, 96, .inl S))] : va_W) = [(o, .inr (4, [.int (nI (if sIn x 0 (S 0 - 1) = true then 0 else 1)), .ref aS, .ref aA, .ref aV, .int sm, .ref aB, .int ln, .int at_, .int wl, .ref aR, .int rm, .int ga, .int fi, .int se, .int ex, .long ha])), (aS, .inl (cI, 96, .inl S))] := (congrArg (fun z_ => ([(o, .inr (4, [.int z_, .ref aS, .ref aA, .ref aV, .int sm, .ref aB, .int ln, .int at_, .int wl, .ref aR, .int rm, .int ga, .int fi, .int se, .int ex, .long ha])), (aS, .inl (cI, 96, .inl S))] : va_W)) ec_r26_1_o_0)
    have hP9 := (w_cgP ew_r26_1 hP)
    have hD9 := (w_cgD ew_r26_1 hD)
    exact W.iret (v := (nI 0)) hx hb hr (fun t ht hW => ⟨⟨(nI 0), (), rfl, (show (nI 0) = (if sIn x 0 (S 0 - 1) = true then sWalk (gQ S) (gW S 1) (gW S 2) (ix x) else 0) from by first | rfl | (first | (simp [c_10] <;> rfl))), by rw [ht]; exact hP9, va_K.moved hW.alike hK, hD9⟩, hS.F ht⟩) hS.2.2 dX6_walkTo_26
  · obtain ⟨r, hr_0, rfl⟩ := rc_of2 hR c_10
    refine lv_aload_n hx hb dX6_walkTo_13 rfl (lv_at hl 0 rfl) ?_
    refine lv_iload_n hx hb dX6_walkTo_14 rfl (lv_at hl 1 rfl) ?_
    refine vp_callSi (W.runV (As := [.int (nI r)]) (rest := []) ⟨hx, hb, hml, hown, hts⟩ (kX6_walk l dC dI cI cV cW o 0 aS aA aV sm aB ln at_ wl aR rm ga fi se ex ha S cn r (hR) (by omega)) (cwV 1 hts gX6_walkTo_X6_walk rfl rfl rfl hdX6_walk ⟨Nat.le_of_ble_eq_true rfl, Nat.le_of_ble_eq_true rfl⟩) (pR_V hK hP 0 4 rfl rfl rfl [0, 1] rfl) rfl rfl hl.1 rfl (lv_room (Nat.le_of_ble_eq_true rfl)) dX6_walkTo_15 ⟨Nat.zero_le _, Nat.zero_le _⟩) (fun r_15 hr_ => ?_)
    subst hr_
    refine lv_goto (tgt := 26) hx hb dX6_walkTo_18 (by decide) ?_
    have ec_r26_2_o_0 : (nI 0) = (nI (if sIn (nI r) 0 (S 0 - 1) = true then 0 else 1)) := by first | rfl | (first | (simp [c_10, ix_nI (show r < 2147483648 by omega)] <;> rfl))
    have ew_r26_2 : ([(o, .inr (4, [.int (nI 0), .ref aS, .ref aA, .ref aV, .int sm, .ref aB, .int ln, .int at_, .int wl, .ref aR, .int rm, .int ga, .int fi, .int se, .int ex, .long ha])), (aS, .inl (cI, 96, .inl S))] : va_W) = [(o, .inr (4, [.int (nI (if sIn (nI r) 0 (S 0 - 1) = true then 0 else 1)), .ref aS, .ref aA, .ref aV, .int sm, .ref aB, .int ln, .int at_, .int wl, .ref aR, .int rm, .int ga, .int fi, .int se, .int ex, .long ha])), (aS, .inl (cI, 96, .inl S))] := (congrArg (fun z_ => ([(o, .inr (4, [.int z_, .ref aS, .ref aA, .ref aV, .int sm, .ref aB, .int ln, .int at_, .int wl, .ref aR, .int rm, .int ga, .int fi, .int se, .int ex, .long ha])), (aS, .inl (cI, 96, .inl S))] : va_W)) ec_r26_2_o_0)
    have hP9 := (w_cgP ew_r26_2 hP)
    have hD9 := (w_cgD ew_r26_2 hD)
    exact W.iret (v := (sWalk (gQ S) (gW S 1) (gW S 2) r)) hx hb hr (fun t ht hW => ⟨⟨(sWalk (gQ S) (gW S 1) (gW S 2) r), (), rfl, (show (sWalk (gQ S) (gW S 1) (gW S 2) r) = (if sIn (nI r) 0 (S 0 - 1) = true then sWalk (gQ S) (gW S 1) (gW S 2) (ix (nI r)) else 0) from by first | rfl | (first | (simp [c_10, ix_nI (show r < 2147483648 by omega)] <;> rfl))), by rw [ht]; exact hP9, va_K.moved hW.alike hK, hD9⟩, hS.F ht⟩) hS.2.2 dX6_walkTo_26
set_option maxHeartbeats 4000000 in
set_option maxRecDepth 100000 in
theorem kX6_free (l : Launch) (dC : Nat → ClassId) (dI : Nat → Nat → Nat) (cI cV cW : ClassId) (sz : Nat) (o : Nat) (th : Int32) (aS : Nat) (aA : Nat) (aV : Nat) (sm : Int32) (aB : Nat) (ln : Int32) (at_ : Int32) (wl : Int32) (aR : Nat) (rm : Int32) (ga : Int32) (fi : Int32) (se : Int32) (ex : Int32) (ha : Int64) (S : Nat → Int32) (cn : Nat) (x : Int32) (hR : RO S cn) : Met l yX6_free wsX6_free ({ frames := 3, cells := 0, slots := 0, locals := 66 }) (pW (dC, dI) (tyS cI cV cW) sz [.ref o, .int x] [(o, .inr (4, [.int th, .ref aS, .ref aA, .ref aV, .int sm, .ref aB, .int ln, .int at_, .int wl, .ref aR, .int rm, .int ga, .int fi, .int se, .int ex, .long ha])), (aS, .inl (cI, 96, .inl S))]) (va_Qi (fun (r_ : Int32) (_ : Unit) => r_ = (if sIn x 0 5 = true then sRm S cn (ix x) else 0)) (fun (_ : Unit) t => qB (dC, dI) (tyS cI cV cW) (va_A [(o, .inr (4, [.int th, .ref aS, .ref aA, .ref aV, .int sm, .ref aB, .int ln, .int at_, .int wl, .ref aR, .int rm, .int ga, .int fi, .int se, .int ex, .long ha])), (aS, .inl (cI, 96, .inl S))] sz) [(o, .inr (4, [.int (nI (if sIn x 0 5 = true then 0 else 1)), .ref aS, .ref aA, .ref aV, .int sm, .ref aB, .int ln, .int at_, .int wl, .ref aR, .int rm, .int ga, .int fi, .int se, .int ex, .long ha])), (aS, .inl (cI, 96, .inl S))] t) (va_A [(o, .inr (4, [.int th, .ref aS, .ref aA, .ref aV, .int sm, .ref aB, .int ln, .int at_, .int wl, .ref aR, .int rm, .int ga, .int fi, .int se, .int ex, .long ha])), (aS, .inl (cI, 96, .inl S))] sz)) 0 0 (va_A [(o, .inr (4, [.int th, .ref aS, .ref aA, .ref aV, .int sm, .ref aB, .int ln, .int at_, .int wl, .ref aR, .int rm, .int ga, .int fi, .int se, .int ex, .long ha])), (aS, .inl (cI, 96, .inl S))] sz) := by
  refine Met.ofW (cc := cX6_free) (maxL := 2) (ret := (some .int)) (by decide) rfl ?_
  intro p e s m args below meth c s₁ B hml hv
  obtain ⟨rfl, hsz, hP, hK, hD0⟩ := hv
  have hx := B.exec
  have hb := B.bytes
  have hr := B.returns
  have hts := atoms_spec (ws := wsX6_free) B.pre
  have hown : s.vm.findClass RX6 = some m.cls := findClass_of_methodNamed B.named
  have hlocks := B.notSynchronized
  subst hsz
  have hD := hD0.self (sz := s.heap.size)
  generalize hAe : va_A [(o, .inr (4, [.int th, .ref aS, .ref aA, .ref aV, .int sm, .ref aB, .int ln, .int at_, .int wl, .ref aR, .int rm, .int ga, .int fi, .int se, .int ex, .long ha])), (aS, .inl (cI, 96, .inl S))] s.heap.size = A at hD ⊢
  have hA : ∀ q : Nat, s.heap.size ≤ q → A q := fun q h => by rw [← hAe]; exact Or.inr h
  have hS : va_S A s.heap s.heap [] := va_S.rf
  refine w_gen hP hS (fun H locs hP hS => ?_)
  have hf25 := hts (.fieldLink RX6 25 "VaultShelvesModel" "thrown" "I") (by decide +kernel)
  have hiX6 : ∀ w ∈ u_ws RX6 TX6 16, w ∈ wsX6_free := by decide +kernel
  have hl := lv_entry ([.ref o, .int x]) (n := 2) (Nat.le_of_ble_eq_true rfl)
  rw [lg_entry_eq]
  generalize (lg_sl ([.ref o, .int x]) ++ List.replicate (2 - (lg_sl ([.ref o, .int x])).length) Slot.unset).toArray = ls at hl ⊢
  replace hl : lv_has ls 2 [(0, .ref o), (1, .int x)] := hl
  have hc := hR.2.1
  refine lv_aload_n hx hb dX6_free_0 rfl (lv_at hl 0 rfl) ?_
  refine lv_iconst (v := (nI 0)) hx hb dX6_free_1 (by decide) ?_
  refine va_put (D := (dC, dI)) (ci := 4) (v := .int (nI 0)) (ty := .int) (C := RX6) (T := TX6) (N := 16) hx hb hts hiX6 tyX6 tyX6_ok nmX6 hown hK hP hD hS 0 rfl rfl 0 (by decide) hf25 (fun _ h9 => h9) rfl (by decide +kernel) rfl rfl (Nat.le_of_ble_eq_true rfl) dX6_free_2 (fun H locs hP hD hS => ?_)
  replace hP : va_P (dC, dI) vwCl [(o, .inr (4, [.int (nI 0), .ref aS, .ref aA, .ref aV, .int sm, .ref aB, .int ln, .int at_, .int wl, .ref aR, .int rm, .int ga, .int fi, .int se, .int ex, .long ha])), (aS, .inl (cI, 96, .inl S))] H := hP
  replace hD : va_D A [(o, .inr (4, [.int (nI 0), .ref aS, .ref aA, .ref aV, .int sm, .ref aB, .int ln, .int at_, .int wl, .ref aR, .int rm, .int ga, .int fi, .int se, .int ex, .long ha])), (aS, .inl (cI, 96, .inl S))] := hD
  refine lv_iload_n hx hb dX6_free_5 rfl (lv_at hl 1 rfl) ?_
  refine vp_callSi (W.runS (As := [.int x]) (rest := []) ⟨hx, hb, hml, hown, hts⟩ (kX6_isShelf l dC dI cI cV cW x) (va_cwS 1 hts gX6_free_X6_isShelf rfl rfl rfl hdX6_isShelf ⟨Nat.le_of_ble_eq_true rfl, Nat.le_of_ble_eq_true rfl⟩) (pR_S hK hP [] rfl) rfl rfl hl.1 rfl (lv_room (Nat.le_of_ble_eq_true rfl)) dX6_free_6 ⟨Nat.zero_le _, Nat.zero_le _⟩) (fun r_6 hr_ => ?_)
  subst hr_
  refine b_if_eq (tgt := 20) hx hb dX6_free_9 (by decide) (fun c_9 => ?_) (fun c_9 => ?_)
  · refine lv_aload_n hx hb dX6_free_20 rfl (lv_at hl 0 rfl) ?_
    refine lv_iconst (v := (nI 1)) hx hb dX6_free_21 (by decide) ?_
    have hPc := hP.sub (ws' := [(o, .inr (4, [.int (nI 0), .ref aS, .ref aA, .ref aV, .int sm, .ref aB, .int ln, .int at_, .int wl, .ref aR, .int rm, .int ga, .int fi, .int se, .int ex, .long ha]))]) [0] rfl
    have hDc := hD.sub (ws' := [(o, .inr (4, [.int (nI 0), .ref aS, .ref aA, .ref aV, .int sm, .ref aB, .int ln, .int at_, .int wl, .ref aR, .int rm, .int ga, .int fi, .int se, .int ex, .long ha]))]) [0] (by decide) rfl
    have hFc := va_free (wc := [(o, .inr (4, [.int (nI 0), .ref aS, .ref aA, .ref aV, .int sm, .ref aB, .int ln, .int at_, .int wl, .ref aR, .int rm, .int ga, .int fi, .int se, .int ex, .long ha]))]) hD hS hA [0] rfl
    refine va_calli (va_runV (As := [.int (nI 1)]) (rest := []) ⟨hx, hb, hml, hown, hts⟩ (kX6_fails l dC dI cI cV cW H.size o 0 aS aA aV sm aB ln at_ wl aR rm ga fi se ex ha 1) (cwV 1 hts gX6_free_X6_fails rfl rfl rfl hdX6_fails ⟨Nat.le_of_ble_eq_true rfl, Nat.le_of_ble_eq_true rfl⟩) (pW_V hK hP hPc hDc 0 4 rfl rfl rfl) rfl rfl hl.1 rfl (lv_room (Nat.le_of_ble_eq_true rfl)) dX6_free_22 ⟨Nat.zero_le _, Nat.zero_le _⟩) hS (fun q _ h => hFc q h) hFc (fun r_22 u_ t_ H1 locs ht_ hvm_ hw_ hB_ hz_ hk_ hS => ?_)
    obtain ⟨hP1, -, hD1⟩ := hB_
    rw [ht_] at hP1
    obtain ⟨hP, hD⟩ := va_join (wr := [(aS, .inl (cI, 96, .inl S))]) (w1 := [(o, .inr (4, [.int 1, .ref aS, .ref aA, .ref aV, .int sm, .ref aB, .int ln, .int at_, .int wl, .ref aR, .int rm, .int ga, .int fi, .int se, .int ex, .long ha]))]) hP hD [0] [1] rfl rfl (by decide) (by decide) hk_ hFc hP1 hD1
    clear hP1 hD1 hPc hDc hFc hk_ hz_ hvm_ ht_
    generalize H1 = H at hP hS ⊢
    replace hP : va_P (dC, dI) vwCl [(o, .inr (4, [.int 1, .ref aS, .ref aA, .ref aV, .int sm, .ref aB, .int ln, .int at_, .int wl, .ref aR, .int rm, .int ga, .int fi, .int se, .int ex, .long ha])), (aS, .inl (cI, 96, .inl S))] H := hP.sub [1, 0] rfl
    replace hD : va_D A [(o, .inr (4, [.int 1, .ref aS, .ref aA, .ref aV, .int sm, .ref aB, .int ln, .int at_, .int wl, .ref aR, .int rm, .int ga, .int fi, .int se, .int ex, .long ha])), (aS, .inl (cI, 96, .inl S))] := hD.sub [1, 0] (by decide) rfl
    refine W.widen (k := 0) (n := 0) (Nat.le_refl 0) (Nat.le_refl 0) ?_
    have hw_ : r_22 = (nI 0) := hw_
    subst hw_
    have ec_r25_1_o_0 : 1 = (nI (if sIn x 0 5 = true then 0 else 1)) := by first | rfl | (first | (simp [gQ, c_9] <;> rfl))
    have ew_r25_1 : ([(o, .inr (4, [.int 1, .ref aS, .ref aA, .ref aV, .int sm, .ref aB, .int ln, .int at_, .int wl, .ref aR, .int rm, .int ga, .int fi, .int se, .int ex, .long ha])), (aS, .inl (cI, 96, .inl S))] : va_W) = [(o, .inr (4, [.int (nI (if sIn x 0 5 = true then 0 else 1)), .ref aS, .ref aA, .ref aV, .int sm, .ref aB, .int ln, .int at_, .int wl, .ref aR, .int rm, .int ga, .int fi, .int se, .int ex, .long ha])), (aS, .inl (cI, 96, .inl S))] := (congrArg (fun z_ => ([(o, .inr (4, [.int z_, .ref aS, .ref aA, .ref aV, .int sm, .ref aB, .int ln, .int at_, .int wl, .ref aR, .int rm, .int ga, .int fi, .int se, .int ex, .long ha])), (aS, .inl (cI, 96, .inl S))] : va_W)) ec_r25_1_o_0)
    have hP9 := (w_cgP ew_r25_1 hP)
    have hD9 := (w_cgD ew_r25_1 hD)
    exact W.iret (v := (nI 0)) hx hb hr (fun t ht hW => ⟨⟨(nI 0), (), rfl, (show (nI 0) = (if sIn x 0 5 = true then sRm S cn (ix x) else 0) from by first | rfl | (first | (simp [gQ, c_9] <;> rfl))), by rw [ht]; exact hP9, va_K.moved hW.alike hK, hD9⟩, hS.F ht⟩) hS.2.2 dX6_free_25
  · obtain ⟨k, hk, rfl⟩ := sh_of c_9
    refine lv_aload_n hx hb dX6_free_12 rfl (lv_at hl 0 rfl) ?_
    refine lv_iload_n hx hb dX6_free_13 rfl (lv_at hl 1 rfl) ?_
    refine vp_callSi (W.runV (As := [.int (nI k)]) (rest := []) ⟨hx, hb, hml, hown, hts⟩ (kX6_room l dC dI cI cV cW o 0 aS aA aV sm aB ln at_ wl aR rm ga fi se ex ha S cn k (hR) (by omega)) (cwV 1 hts gX6_free_X6_room rfl rfl rfl hdX6_room ⟨Nat.le_of_ble_eq_true rfl, Nat.le_of_ble_eq_true rfl⟩) (pR_V hK hP 0 4 rfl rfl rfl [0, 1] rfl) rfl rfl hl.1 rfl (lv_room (Nat.le_of_ble_eq_true rfl)) dX6_free_14 ⟨Nat.zero_le _, Nat.zero_le _⟩) (fun r_14 hr_ => ?_)
    subst hr_
    refine lv_goto (tgt := 25) hx hb dX6_free_17 (by decide) ?_
    have ec_r25_2_o_0 : (nI 0) = (nI (if sIn (nI k) 0 5 = true then 0 else 1)) := by first | rfl | (first | (simp [gQ, c_9, ix_nI (show k < 2147483648 by omega)] <;> rfl))
    have ew_r25_2 : ([(o, .inr (4, [.int (nI 0), .ref aS, .ref aA, .ref aV, .int sm, .ref aB, .int ln, .int at_, .int wl, .ref aR, .int rm, .int ga, .int fi, .int se, .int ex, .long ha])), (aS, .inl (cI, 96, .inl S))] : va_W) = [(o, .inr (4, [.int (nI (if sIn (nI k) 0 5 = true then 0 else 1)), .ref aS, .ref aA, .ref aV, .int sm, .ref aB, .int ln, .int at_, .int wl, .ref aR, .int rm, .int ga, .int fi, .int se, .int ex, .long ha])), (aS, .inl (cI, 96, .inl S))] := (congrArg (fun z_ => ([(o, .inr (4, [.int z_, .ref aS, .ref aA, .ref aV, .int sm, .ref aB, .int ln, .int at_, .int wl, .ref aR, .int rm, .int ga, .int fi, .int se, .int ex, .long ha])), (aS, .inl (cI, 96, .inl S))] : va_W)) ec_r25_2_o_0)
    have hP9 := (w_cgP ew_r25_2 hP)
    have hD9 := (w_cgD ew_r25_2 hD)
    exact W.iret (v := (sRm S cn k)) hx hb hr (fun t ht hW => ⟨⟨(sRm S cn k), (), rfl, (show (sRm S cn k) = (if sIn (nI k) 0 5 = true then sRm S cn (ix (nI k)) else 0) from by first | rfl | (first | (simp [gQ, c_9, ix_nI (show k < 2147483648 by omega)] <;> rfl))), by rw [ht]; exact hP9, va_K.moved hW.alike hK, hD9⟩, hS.F ht⟩) hS.2.2 dX6_free_25
set_option maxHeartbeats 4000000 in
set_option maxRecDepth 100000 in
theorem kX6_reach (l : Launch) (dC : Nat → ClassId) (dI : Nat → Nat → Nat) (cI cV cW : ClassId) (sz : Nat) (o : Nat) (th : Int32) (aS : Nat) (aA : Nat) (aV : Nat) (sm : Int32) (aB : Nat) (ln : Int32) (at_ : Int32) (wl : Int32) (aR : Nat) (rm : Int32) (ga : Int32) (fi : Int32) (se : Int32) (ex : Int32) (ha : Int64) (S : Nat → Int32) (cn : Nat) (x : Int32) (hR : RO S cn) : Met l yX6_reach wsX6_reach ({ frames := 2, cells := 0, slots := 0, locals := 42 }) (pW (dC, dI) (tyS cI cV cW) sz [.ref o, .int x] [(o, .inr (4, [.int th, .ref aS, .ref aA, .ref aV, .int sm, .ref aB, .int ln, .int at_, .int wl, .ref aR, .int rm, .int ga, .int fi, .int se, .int ex, .long ha])), (aS, .inl (cI, 96, .inl S))]) (va_Qi (fun (r_ : Int32) (_ : Unit) => r_ = (if sIn x 0 5 = true then gQ S (ix x) else 0)) (fun (_ : Unit) t => qB (dC, dI) (tyS cI cV cW) (va_A [(o, .inr (4, [.int th, .ref aS, .ref aA, .ref aV, .int sm, .ref aB, .int ln, .int at_, .int wl, .ref aR, .int rm, .int ga, .int fi, .int se, .int ex, .long ha])), (aS, .inl (cI, 96, .inl S))] sz) [(o, .inr (4, [.int (nI (if sIn x 0 5 = true then 0 else 1)), .ref aS, .ref aA, .ref aV, .int sm, .ref aB, .int ln, .int at_, .int wl, .ref aR, .int rm, .int ga, .int fi, .int se, .int ex, .long ha])), (aS, .inl (cI, 96, .inl S))] t) (va_A [(o, .inr (4, [.int th, .ref aS, .ref aA, .ref aV, .int sm, .ref aB, .int ln, .int at_, .int wl, .ref aR, .int rm, .int ga, .int fi, .int se, .int ex, .long ha])), (aS, .inl (cI, 96, .inl S))] sz)) 0 0 (va_A [(o, .inr (4, [.int th, .ref aS, .ref aA, .ref aV, .int sm, .ref aB, .int ln, .int at_, .int wl, .ref aR, .int rm, .int ga, .int fi, .int se, .int ex, .long ha])), (aS, .inl (cI, 96, .inl S))] sz) := by
  refine Met.ofW (cc := cX6_reach) (maxL := 2) (ret := (some .int)) (by decide) rfl ?_
  intro p e s m args below meth c s₁ B hml hv
  obtain ⟨rfl, hsz, hP, hK, hD0⟩ := hv
  have hx := B.exec
  have hb := B.bytes
  have hr := B.returns
  have hts := atoms_spec (ws := wsX6_reach) B.pre
  have hown : s.vm.findClass RX6 = some m.cls := findClass_of_methodNamed B.named
  have hlocks := B.notSynchronized
  subst hsz
  have hD := hD0.self (sz := s.heap.size)
  generalize hAe : va_A [(o, .inr (4, [.int th, .ref aS, .ref aA, .ref aV, .int sm, .ref aB, .int ln, .int at_, .int wl, .ref aR, .int rm, .int ga, .int fi, .int se, .int ex, .long ha])), (aS, .inl (cI, 96, .inl S))] s.heap.size = A at hD ⊢
  have hA : ∀ q : Nat, s.heap.size ≤ q → A q := fun q h => by rw [← hAe]; exact Or.inr h
  have hS : va_S A s.heap s.heap [] := va_S.rf
  refine w_gen hP hS (fun H locs hP hS => ?_)
  have hf25 := hts (.fieldLink RX6 25 "VaultShelvesModel" "thrown" "I") (by decide +kernel)
  have hf7 := hts (.fieldLink RX6 7 "VaultShelvesModel" "s" "[I") (by decide +kernel)
  have hiX6 : ∀ w ∈ u_ws RX6 TX6 16, w ∈ wsX6_reach := by decide +kernel
  have hl := lv_entry ([.ref o, .int x]) (n := 2) (Nat.le_of_ble_eq_true rfl)
  rw [lg_entry_eq]
  generalize (lg_sl ([.ref o, .int x]) ++ List.replicate (2 - (lg_sl ([.ref o, .int x])).length) Slot.unset).toArray = ls at hl ⊢
  replace hl : lv_has ls 2 [(0, .ref o), (1, .int x)] := hl
  have hc := hR.2.1
  refine lv_aload_n hx hb dX6_reach_0 rfl (lv_at hl 0 rfl) ?_
  refine lv_iconst (v := (nI 0)) hx hb dX6_reach_1 (by decide) ?_
  refine va_put (D := (dC, dI)) (ci := 4) (v := .int (nI 0)) (ty := .int) (C := RX6) (T := TX6) (N := 16) hx hb hts hiX6 tyX6 tyX6_ok nmX6 hown hK hP hD hS 0 rfl rfl 0 (by decide) hf25 (fun _ h9 => h9) rfl (by decide +kernel) rfl rfl (Nat.le_of_ble_eq_true rfl) dX6_reach_2 (fun H locs hP hD hS => ?_)
  replace hP : va_P (dC, dI) vwCl [(o, .inr (4, [.int (nI 0), .ref aS, .ref aA, .ref aV, .int sm, .ref aB, .int ln, .int at_, .int wl, .ref aR, .int rm, .int ga, .int fi, .int se, .int ex, .long ha])), (aS, .inl (cI, 96, .inl S))] H := hP
  replace hD : va_D A [(o, .inr (4, [.int (nI 0), .ref aS, .ref aA, .ref aV, .int sm, .ref aB, .int ln, .int at_, .int wl, .ref aR, .int rm, .int ga, .int fi, .int se, .int ex, .long ha])), (aS, .inl (cI, 96, .inl S))] := hD
  refine lv_iload_n hx hb dX6_reach_5 rfl (lv_at hl 1 rfl) ?_
  refine vp_callSi (W.runS (As := [.int x]) (rest := []) ⟨hx, hb, hml, hown, hts⟩ (kX6_isShelf l dC dI cI cV cW x) (va_cwS 1 hts gX6_reach_X6_isShelf rfl rfl rfl hdX6_isShelf ⟨Nat.le_of_ble_eq_true rfl, Nat.le_of_ble_eq_true rfl⟩) (pR_S hK hP [] rfl) rfl rfl hl.1 rfl (lv_room (Nat.le_of_ble_eq_true rfl)) dX6_reach_6 ⟨Nat.zero_le _, Nat.zero_le _⟩) (fun r_6 hr_ => ?_)
  subst hr_
  refine b_if_eq (tgt := 24) hx hb dX6_reach_9 (by decide) (fun c_9 => ?_) (fun c_9 => ?_)
  · refine lv_aload_n hx hb dX6_reach_24 rfl (lv_at hl 0 rfl) ?_
    refine lv_iconst (v := (nI 1)) hx hb dX6_reach_25 (by decide) ?_
    have hPc := hP.sub (ws' := [(o, .inr (4, [.int (nI 0), .ref aS, .ref aA, .ref aV, .int sm, .ref aB, .int ln, .int at_, .int wl, .ref aR, .int rm, .int ga, .int fi, .int se, .int ex, .long ha]))]) [0] rfl
    have hDc := hD.sub (ws' := [(o, .inr (4, [.int (nI 0), .ref aS, .ref aA, .ref aV, .int sm, .ref aB, .int ln, .int at_, .int wl, .ref aR, .int rm, .int ga, .int fi, .int se, .int ex, .long ha]))]) [0] (by decide) rfl
    have hFc := va_free (wc := [(o, .inr (4, [.int (nI 0), .ref aS, .ref aA, .ref aV, .int sm, .ref aB, .int ln, .int at_, .int wl, .ref aR, .int rm, .int ga, .int fi, .int se, .int ex, .long ha]))]) hD hS hA [0] rfl
    refine va_calli (va_runV (As := [.int (nI 1)]) (rest := []) ⟨hx, hb, hml, hown, hts⟩ (kX6_fails l dC dI cI cV cW H.size o 0 aS aA aV sm aB ln at_ wl aR rm ga fi se ex ha 1) (cwV 1 hts gX6_reach_X6_fails rfl rfl rfl hdX6_fails ⟨Nat.le_of_ble_eq_true rfl, Nat.le_of_ble_eq_true rfl⟩) (pW_V hK hP hPc hDc 0 4 rfl rfl rfl) rfl rfl hl.1 rfl (lv_room (Nat.le_of_ble_eq_true rfl)) dX6_reach_26 ⟨Nat.zero_le _, Nat.zero_le _⟩) hS (fun q _ h => hFc q h) hFc (fun r_26 u_ t_ H1 locs ht_ hvm_ hw_ hB_ hz_ hk_ hS => ?_)
    obtain ⟨hP1, -, hD1⟩ := hB_
    rw [ht_] at hP1
    obtain ⟨hP, hD⟩ := va_join (wr := [(aS, .inl (cI, 96, .inl S))]) (w1 := [(o, .inr (4, [.int 1, .ref aS, .ref aA, .ref aV, .int sm, .ref aB, .int ln, .int at_, .int wl, .ref aR, .int rm, .int ga, .int fi, .int se, .int ex, .long ha]))]) hP hD [0] [1] rfl rfl (by decide) (by decide) hk_ hFc hP1 hD1
    clear hP1 hD1 hPc hDc hFc hk_ hz_ hvm_ ht_
    generalize H1 = H at hP hS ⊢
    replace hP : va_P (dC, dI) vwCl [(o, .inr (4, [.int 1, .ref aS, .ref aA, .ref aV, .int sm, .ref aB, .int ln, .int at_, .int wl, .ref aR, .int rm, .int ga, .int fi, .int se, .int ex, .long ha])), (aS, .inl (cI, 96, .inl S))] H := hP.sub [1, 0] rfl
    replace hD : va_D A [(o, .inr (4, [.int 1, .ref aS, .ref aA, .ref aV, .int sm, .ref aB, .int ln, .int at_, .int wl, .ref aR, .int rm, .int ga, .int fi, .int se, .int ex, .long ha])), (aS, .inl (cI, 96, .inl S))] := hD.sub [1, 0] (by decide) rfl
    refine W.widen (k := 0) (n := 0) (Nat.le_refl 0) (Nat.le_refl 0) ?_
    have hw_ : r_26 = (nI 0) := hw_
    subst hw_
    have ec_r29_1_o_0 : 1 = (nI (if sIn x 0 5 = true then 0 else 1)) := by first | rfl | (first | (simp [gQ, c_9] <;> rfl))
    have ew_r29_1 : ([(o, .inr (4, [.int 1, .ref aS, .ref aA, .ref aV, .int sm, .ref aB, .int ln, .int at_, .int wl, .ref aR, .int rm, .int ga, .int fi, .int se, .int ex, .long ha])), (aS, .inl (cI, 96, .inl S))] : va_W) = [(o, .inr (4, [.int (nI (if sIn x 0 5 = true then 0 else 1)), .ref aS, .ref aA, .ref aV, .int sm, .ref aB, .int ln, .int at_, .int wl, .ref aR, .int rm, .int ga, .int fi, .int se, .int ex, .long ha])), (aS, .inl (cI, 96, .inl S))] := (congrArg (fun z_ => ([(o, .inr (4, [.int z_, .ref aS, .ref aA, .ref aV, .int sm, .ref aB, .int ln, .int at_, .int wl, .ref aR, .int rm, .int ga, .int fi, .int se, .int ex, .long ha])), (aS, .inl (cI, 96, .inl S))] : va_W)) ec_r29_1_o_0)
    have hP9 := (w_cgP ew_r29_1 hP)
    have hD9 := (w_cgD ew_r29_1 hD)
    exact W.iret (v := (nI 0)) hx hb hr (fun t ht hW => ⟨⟨(nI 0), (), rfl, (show (nI 0) = (if sIn x 0 5 = true then gQ S (ix x) else 0) from by first | rfl | (first | (simp [gQ, c_9] <;> rfl))), by rw [ht]; exact hP9, va_K.moved hW.alike hK, hD9⟩, hS.F ht⟩) hS.2.2 dX6_reach_29
  · obtain ⟨k, hk, rfl⟩ := sh_of c_9
    refine lv_aload_n hx hb dX6_reach_12 rfl (lv_at hl 0 rfl) ?_
    refine va_get (D := (dC, dI)) (ci := 4) (v := .ref aS) (C := RX6) (T := TX6) (N := 16) hx hb hts hiX6 hown hK hP 0 rfl rfl 1 (by decide) hf7 (fun _ h9 => h9) rfl dX6_reach_13 ?_
    refine lv_bipush (v := (nI 9)) hx hb dX6_reach_16 (by decide) ?_
    refine lv_iload_n hx hb dX6_reach_18 rfl (lv_at hl 1 rfl) ?_
    refine n_iadd hx hb dX6_reach_19 ?_
    refine n_iald hx hb hK hP 1 0 rfl rfl (show 9 + k < 96 from by omega) (by decide) dX6_reach_20 ?_
    refine lv_goto (tgt := 29) hx hb dX6_reach_21 (by decide) ?_
    have ec_r29_2_o_0 : (nI 0) = (nI (if sIn (nI k) 0 5 = true then 0 else 1)) := by first | rfl | (first | (simp [gQ, c_9, ix_nI (show k < 2147483648 by omega)] <;> rfl))
    have ew_r29_2 : ([(o, .inr (4, [.int (nI 0), .ref aS, .ref aA, .ref aV, .int sm, .ref aB, .int ln, .int at_, .int wl, .ref aR, .int rm, .int ga, .int fi, .int se, .int ex, .long ha])), (aS, .inl (cI, 96, .inl S))] : va_W) = [(o, .inr (4, [.int (nI (if sIn (nI k) 0 5 = true then 0 else 1)), .ref aS, .ref aA, .ref aV, .int sm, .ref aB, .int ln, .int at_, .int wl, .ref aR, .int rm, .int ga, .int fi, .int se, .int ex, .long ha])), (aS, .inl (cI, 96, .inl S))] := (congrArg (fun z_ => ([(o, .inr (4, [.int z_, .ref aS, .ref aA, .ref aV, .int sm, .ref aB, .int ln, .int at_, .int wl, .ref aR, .int rm, .int ga, .int fi, .int se, .int ex, .long ha])), (aS, .inl (cI, 96, .inl S))] : va_W)) ec_r29_2_o_0)
    have hP9 := (w_cgP ew_r29_2 hP)
    have hD9 := (w_cgD ew_r29_2 hD)
    exact W.iret (v := (S (9 + k))) hx hb hr (fun t ht hW => ⟨⟨(S (9 + k)), (), rfl, (show (S (9 + k)) = (if sIn (nI k) 0 5 = true then gQ S (ix (nI k)) else 0) from by first | rfl | (first | (simp [gQ, c_9, ix_nI (show k < 2147483648 by omega)] <;> rfl))), by rw [ht]; exact hP9, va_K.moved hW.alike hK, hD9⟩, hS.F ht⟩) hS.2.2 dX6_reach_29
set_option maxHeartbeats 4000000 in
set_option maxRecDepth 100000 in
theorem kX6_removeRecord (l : Launch) (dC : Nat → ClassId) (dI : Nat → Nat → Nat) (cI cV cW : ClassId) (sz : Nat) (o : Nat) (th : Int32) (aS : Nat) (aA : Nat) (aV : Nat) (aB : Nat) (ln : Int32) (at_ : Int32) (wl : Int32) (aR : Nat) (rm : Int32) (ga : Int32) (fi : Int32) (se : Int32) (ex : Int32) (ha : Int64) (S : Nat → Int32) (cn : Nat) (V : Nat → Int32) (n : Nat) (x : Int32) (hR : RO S cn) (hn : n ≤ 6) : Met l yX6_removeRecord wsX6_removeRecord ({ frames := 2, cells := 0, slots := 0, locals := 43 }) (pW (dC, dI) (tyS cI cV cW) sz [.ref o, .int x] [(o, .inr (4, [.int th, .ref aS, .ref aA, .ref aV, .int (nI n), .ref aB, .int ln, .int at_, .int wl, .ref aR, .int rm, .int ga, .int fi, .int se, .int ex, .long ha])), (aS, .inl (cI, 96, .inl S)), (aV, .inl (cI, 576, .inl V))]) (va_Qi (fun (r_ : Int32) (_ : Unit) => r_ = (if sIn x 0 (S 0 - 1) = true then gW S 1 (ix x) else 0)) (fun (_ : Unit) t => qB (dC, dI) (tyS cI cV cW) (va_A [(o, .inr (4, [.int th, .ref aS, .ref aA, .ref aV, .int (nI n), .ref aB, .int ln, .int at_, .int wl, .ref aR, .int rm, .int ga, .int fi, .int se, .int ex, .long ha])), (aS, .inl (cI, 96, .inl S)), (aV, .inl (cI, 576, .inl V))] sz) [(o, .inr (4, [.int (nI (if sIn x 0 (S 0 - 1) = true then 0 else 1)), .ref aS, .ref aA, .ref aV, .int (nI (if sIn x 0 (S 0 - 1) = true then svN n else n)), .ref aB, .int ln, .int at_, .int wl, .ref aR, .int rm, .int ga, .int fi, .int se, .int ex, .long ha])), (aS, .inl (cI, 96, .inl (if sIn x 0 (S 0 - 1) = true then fRem S cn (ix x) else S))), (aV, .inl (cI, 576, .inl (if sIn x 0 (S 0 - 1) = true then svV S V n else V)))] t) (va_A [(o, .inr (4, [.int th, .ref aS, .ref aA, .ref aV, .int (nI n), .ref aB, .int ln, .int at_, .int wl, .ref aR, .int rm, .int ga, .int fi, .int se, .int ex, .long ha])), (aS, .inl (cI, 96, .inl S)), (aV, .inl (cI, 576, .inl V))] sz)) 0 0 (va_A [(o, .inr (4, [.int th, .ref aS, .ref aA, .ref aV, .int (nI n), .ref aB, .int ln, .int at_, .int wl, .ref aR, .int rm, .int ga, .int fi, .int se, .int ex, .long ha])), (aS, .inl (cI, 96, .inl S)), (aV, .inl (cI, 576, .inl V))] sz) := by
  refine Met.ofW (cc := cX6_removeRecord) (maxL := 4) (ret := (some .int)) (by decide) rfl ?_
  intro p e s m args below meth c s₁ B hml hv
  obtain ⟨rfl, hsz, hP, hK, hD0⟩ := hv
  have hx := B.exec
  have hb := B.bytes
  have hr := B.returns
  have hts := atoms_spec (ws := wsX6_removeRecord) B.pre
  have hown : s.vm.findClass RX6 = some m.cls := findClass_of_methodNamed B.named
  have hlocks := B.notSynchronized
  subst hsz
  have hD := hD0.self (sz := s.heap.size)
  generalize hAe : va_A [(o, .inr (4, [.int th, .ref aS, .ref aA, .ref aV, .int (nI n), .ref aB, .int ln, .int at_, .int wl, .ref aR, .int rm, .int ga, .int fi, .int se, .int ex, .long ha])), (aS, .inl (cI, 96, .inl S)), (aV, .inl (cI, 576, .inl V))] s.heap.size = A at hD ⊢
  have hA : ∀ q : Nat, s.heap.size ≤ q → A q := fun q h => by rw [← hAe]; exact Or.inr h
  have hS : va_S A s.heap s.heap [] := va_S.rf
  refine w_gen hP hS (fun H locs hP hS => ?_)
  have hf25 := hts (.fieldLink RX6 25 "VaultShelvesModel" "thrown" "I") (by decide +kernel)
  have hf7 := hts (.fieldLink RX6 7 "VaultShelvesModel" "s" "[I") (by decide +kernel)
  have hiX6 : ∀ w ∈ u_ws RX6 TX6 16, w ∈ wsX6_removeRecord := by decide +kernel
  have hl := lv_entry ([.ref o, .int x]) (n := 4) (Nat.le_of_ble_eq_true rfl)
  rw [lg_entry_eq]
  generalize (lg_sl ([.ref o, .int x]) ++ List.replicate (4 - (lg_sl ([.ref o, .int x])).length) Slot.unset).toArray = ls at hl ⊢
  replace hl : lv_has ls 4 [(0, .ref o), (1, .int x)] := hl
  have hc := hR.2.1
  refine lv_aload_n hx hb dX6_removeRecord_0 rfl (lv_at hl 0 rfl) ?_
  refine lv_iconst (v := (nI 0)) hx hb dX6_removeRecord_1 (by decide) ?_
  refine va_put (D := (dC, dI)) (ci := 4) (v := .int (nI 0)) (ty := .int) (C := RX6) (T := TX6) (N := 16) hx hb hts hiX6 tyX6 tyX6_ok nmX6 hown hK hP hD hS 0 rfl rfl 0 (by decide) hf25 (fun _ h9 => h9) rfl (by decide +kernel) rfl rfl (Nat.le_of_ble_eq_true rfl) dX6_removeRecord_2 (fun H locs hP hD hS => ?_)
  replace hP : va_P (dC, dI) vwCl [(o, .inr (4, [.int (nI 0), .ref aS, .ref aA, .ref aV, .int (nI n), .ref aB, .int ln, .int at_, .int wl, .ref aR, .int rm, .int ga, .int fi, .int se, .int ex, .long ha])), (aS, .inl (cI, 96, .inl S)), (aV, .inl (cI, 576, .inl V))] H := hP
  replace hD : va_D A [(o, .inr (4, [.int (nI 0), .ref aS, .ref aA, .ref aV, .int (nI n), .ref aB, .int ln, .int at_, .int wl, .ref aR, .int rm, .int ga, .int fi, .int se, .int ex, .long ha])), (aS, .inl (cI, 96, .inl S)), (aV, .inl (cI, 576, .inl V))] := hD
  refine lv_aload_n hx hb dX6_removeRecord_5 rfl (lv_at hl 0 rfl) ?_
  refine lv_iload_n hx hb dX6_removeRecord_6 rfl (lv_at hl 1 rfl) ?_
  refine vp_callSi (W.runV (As := [.int x]) (rest := []) ⟨hx, hb, hml, hown, hts⟩ (kX6_isRecord l dC dI cI cV cW o 0 aS aA aV (nI n) aB ln at_ wl aR rm ga fi se ex ha S x) (cwV 1 hts gX6_removeRecord_X6_isRecord rfl rfl rfl hdX6_isRecord ⟨Nat.le_of_ble_eq_true rfl, Nat.le_of_ble_eq_true rfl⟩) (pR_V hK hP 0 4 rfl rfl rfl [0, 1] rfl) rfl rfl hl.1 rfl (lv_room (Nat.le_of_ble_eq_true rfl)) dX6_removeRecord_7 ⟨Nat.zero_le _, Nat.zero_le _⟩) (fun r_7 hr_ => ?_)
  subst hr_
  refine b_if_ne (tgt := 19) hx hb dX6_removeRecord_10 (by decide) (fun c_10 => ?_) (fun c_10 => ?_)
  · obtain ⟨r, hr_0, rfl⟩ := rc_of2 hR c_10
    refine lv_aload_n hx hb dX6_removeRecord_19 rfl (lv_at hl 0 rfl) ?_
    have hPc := hP.sub (ws' := [(o, .inr (4, [.int (nI 0), .ref aS, .ref aA, .ref aV, .int (nI n), .ref aB, .int ln, .int at_, .int wl, .ref aR, .int rm, .int ga, .int fi, .int se, .int ex, .long ha])), (aS, .inl (cI, 96, .inl S)), (aV, .inl (cI, 576, .inl V))]) [0, 1, 2] rfl
    have hDc := hD.sub (ws' := [(o, .inr (4, [.int (nI 0), .ref aS, .ref aA, .ref aV, .int (nI n), .ref aB, .int ln, .int at_, .int wl, .ref aR, .int rm, .int ga, .int fi, .int se, .int ex, .long ha])), (aS, .inl (cI, 96, .inl S)), (aV, .inl (cI, 576, .inl V))]) [0, 1, 2] (by decide) rfl
    have hFc := va_free (wc := [(o, .inr (4, [.int (nI 0), .ref aS, .ref aA, .ref aV, .int (nI n), .ref aB, .int ln, .int at_, .int wl, .ref aR, .int rm, .int ga, .int fi, .int se, .int ex, .long ha])), (aS, .inl (cI, 96, .inl S)), (aV, .inl (cI, 576, .inl V))]) hD hS hA [0, 1, 2] rfl
    refine va_callv (va_runV (As := []) (rest := []) ⟨hx, hb, hml, hown, hts⟩ (kX6_saves l dC dI cI cV cW H.size o 0 aS aA aV aB ln at_ wl aR rm ga fi se ex ha S V n (hn)) (cwV 0 hts gX6_removeRecord_X6_saves rfl rfl rfl hdX6_saves ⟨Nat.le_of_ble_eq_true rfl, Nat.le_of_ble_eq_true rfl⟩) (pW_V hK hP hPc hDc 0 4 rfl rfl rfl) rfl rfl hl.1 rfl (lv_room (Nat.le_of_ble_eq_true rfl)) dX6_removeRecord_20 ⟨Nat.zero_le _, Nat.zero_le _⟩) hS (fun q _ h => hFc q h) hFc (fun u_ t_ H1 locs ht_ hvm_ hw_ hB_ hz_ hk_ hS => ?_)
    obtain ⟨hP1, -, hD1⟩ := hB_
    rw [ht_] at hP1
    obtain ⟨hP, hD⟩ := va_join (wr := []) (w1 := [(o, .inr (4, [.int (nI 0), .ref aS, .ref aA, .ref aV, .int (nI (svN n)), .ref aB, .int ln, .int at_, .int wl, .ref aR, .int rm, .int ga, .int fi, .int se, .int ex, .long ha])), (aS, .inl (cI, 96, .inl S)), (aV, .inl (cI, 576, .inl (svV S V n)))]) hP hD [0, 1, 2] [] rfl rfl (by decide) (by decide) hk_ hFc hP1 hD1
    clear hP1 hD1 hPc hDc hFc hk_ hz_ hvm_ ht_
    generalize H1 = H at hP hS ⊢
    replace hP : va_P (dC, dI) vwCl [(o, .inr (4, [.int (nI 0), .ref aS, .ref aA, .ref aV, .int (nI (svN n)), .ref aB, .int ln, .int at_, .int wl, .ref aR, .int rm, .int ga, .int fi, .int se, .int ex, .long ha])), (aS, .inl (cI, 96, .inl S)), (aV, .inl (cI, 576, .inl (svV S V n)))] H := hP
    replace hD : va_D A [(o, .inr (4, [.int (nI 0), .ref aS, .ref aA, .ref aV, .int (nI (svN n)), .ref aB, .int ln, .int at_, .int wl, .ref aR, .int rm, .int ga, .int fi, .int se, .int ex, .long ha])), (aS, .inl (cI, 96, .inl S)), (aV, .inl (cI, 576, .inl (svV S V n)))] := hD
    refine W.widen (k := 0) (n := 0) (Nat.le_refl 0) (Nat.le_refl 0) ?_
    refine lv_aload_n hx hb dX6_removeRecord_23 rfl (lv_at hl 0 rfl) ?_
    refine lv_iload_n hx hb dX6_removeRecord_24 rfl (lv_at hl 1 rfl) ?_
    refine lv_iconst (v := (nI 1)) hx hb dX6_removeRecord_25 (by decide) ?_
    refine vp_callSi (W.runV (As := [.int (nI r), .int (nI 1)]) (rest := []) ⟨hx, hb, hml, hown, hts⟩ (kX6_of l dC dI cI cV cW o 0 aS aA aV (nI (svN n)) aB ln at_ wl aR rm ga fi se ex ha S r 1 (by omega) (by omega)) (cwV 2 hts gX6_removeRecord_X6_of rfl rfl rfl hdX6_of ⟨Nat.le_of_ble_eq_true rfl, Nat.le_of_ble_eq_true rfl⟩) (pR_V hK hP 0 4 rfl rfl rfl [0, 1] rfl) rfl rfl hl.1 rfl (lv_room (Nat.le_of_ble_eq_true rfl)) dX6_removeRecord_26 ⟨Nat.zero_le _, Nat.zero_le _⟩) (fun r_26 hr_ => ?_)
    subst hr_
    refine lv_istore_n (lv' := [(2, .int (gW S 1 r)), (0, .ref o), (1, .int (nI r))]) hx hb dX6_removeRecord_29 rfl hl (by decide) rfl (fun ls hl => ?_)
    refine lv_aload_n hx hb dX6_removeRecord_30 rfl (lv_at hl 1 rfl) ?_
    refine va_get (D := (dC, dI)) (ci := 4) (v := .ref aS) (C := RX6) (T := TX6) (N := 16) hx hb hts hiX6 hown hK hP 0 rfl rfl 1 (by decide) hf7 (fun _ h9 => h9) rfl dX6_removeRecord_31 ?_
    refine lv_iconst (v := (nI 0)) hx hb dX6_removeRecord_34 (by decide) ?_
    refine lv_dup2_11 hx hb dX6_removeRecord_35 rfl rfl ?_
    refine n_iald hx hb hK hP 1 0 rfl rfl (show 0 < 96 from by omega) (by decide) dX6_removeRecord_36 ?_
    refine lv_cgi (show (S 0) = (nI cn) from hR.1) ?_
    refine lv_iconst (v := (nI 1)) hx hb dX6_removeRecord_37 (by decide) ?_
    refine n_isub hx hb dX6_removeRecord_38 (by omega) ?_
    refine n_iast hx hb hK hP hD hS 1 0 rfl rfl (show 0 < 96 from by omega) (by decide) dX6_removeRecord_39 (fun H locs hP hD hS => ?_)
    replace hP : va_P (dC, dI) vwCl [(o, .inr (4, [.int (nI 0), .ref aS, .ref aA, .ref aV, .int (nI (svN n)), .ref aB, .int ln, .int at_, .int wl, .ref aR, .int rm, .int ga, .int fi, .int se, .int ex, .long ha])), (aS, .inl (cI, 96, .inl (upd S 0 (nI (cn - 1))))), (aV, .inl (cI, 576, .inl (svV S V n)))] H := hP
    replace hD : va_D A [(o, .inr (4, [.int (nI 0), .ref aS, .ref aA, .ref aV, .int (nI (svN n)), .ref aB, .int ln, .int at_, .int wl, .ref aR, .int rm, .int ga, .int fi, .int se, .int ex, .long ha])), (aS, .inl (cI, 96, .inl (upd S 0 (nI (cn - 1))))), (aV, .inl (cI, 576, .inl (svV S V n)))] := hD
    refine lv_iconst (v := (nI 5)) hx hb dX6_removeRecord_40 (by decide) ?_
    refine lv_iload_n hx hb dX6_removeRecord_41 rfl (lv_at hl 2 rfl) ?_
    refine n_imul hx hb dX6_removeRecord_42 ?_
    refine lv_istore_n (lv' := [(3, .int (nI (5 * r))), (2, .int (gW S 1 r)), (0, .ref o), (1, .int (nI r))]) hx hb dX6_removeRecord_43 rfl hl (by decide) rfl (fun ls hl => ?_)
    have ec_i44_aS : upd S 0 (nI (cn - 1)) = fDel (upd S 0 (nI (cn - 1))) (5 * r) 0 := by rfl
    have ew_i44 : ([(o, .inr (4, [.int (nI 0), .ref aS, .ref aA, .ref aV, .int (nI (svN n)), .ref aB, .int ln, .int at_, .int wl, .ref aR, .int rm, .int ga, .int fi, .int se, .int ex, .long ha])), (aS, .inl (cI, 96, .inl (upd S 0 (nI (cn - 1))))), (aV, .inl (cI, 576, .inl (svV S V n)))] : va_W) = [(o, .inr (4, [.int (nI 0), .ref aS, .ref aA, .ref aV, .int (nI (svN n)), .ref aB, .int ln, .int at_, .int wl, .ref aR, .int rm, .int ga, .int fi, .int se, .int ex, .long ha])), (aS, .inl (cI, 96, .inl (fDel (upd S 0 (nI (cn - 1))) (5 * r) 0))), (aV, .inl (cI, 576, .inl (svV S V n)))] := (congrArg (fun z_ => ([(o, .inr (4, [.int (nI 0), .ref aS, .ref aA, .ref aV, .int (nI (svN n)), .ref aB, .int ln, .int at_, .int wl, .ref aR, .int rm, .int ga, .int fi, .int se, .int ex, .long ha])), (aS, .inl (cI, 96, .inl z_)), (aV, .inl (cI, 576, .inl (svV S V n)))] : va_W)) ec_i44_aS)
    have el_i44_3 : (nI (5 * r)) = (nI ((5 * r) + 0)) := by rfl
    have hI0 : (fun (j : Nat) ls H locs => (j ≤ 5 * (cn - 1) - 5 * r) ∧ (va_P (dC, dI) vwCl [(o, .inr (4, [.int (nI 0), .ref aS, .ref aA, .ref aV, .int (nI (svN n)), .ref aB, .int ln, .int at_, .int wl, .ref aR, .int rm, .int ga, .int fi, .int se, .int ex, .long ha])), (aS, .inl (cI, 96, .inl (fDel (upd S 0 (nI (cn - 1))) (5 * r) j))), (aV, .inl (cI, 576, .inl (svV S V n)))] H) ∧ (va_D A [(o, .inr (4, [.int (nI 0), .ref aS, .ref aA, .ref aV, .int (nI (svN n)), .ref aB, .int ln, .int at_, .int wl, .ref aR, .int rm, .int ga, .int fi, .int se, .int ex, .long ha])), (aS, .inl (cI, 96, .inl (fDel (upd S 0 (nI (cn - 1))) (5 * r) j))), (aV, .inl (cI, 576, .inl (svV S V n)))]) ∧ (va_S A s.heap H locs) ∧ (lv_has ls 4 [(0, .ref o), (1, .int (nI r)), (2, .int (gW S 1 r)), (3, .int (nI ((5 * r) + j)))])) 0 ls H locs := ⟨by omega, (w_cgP ew_i44 hP), (w_cgD ew_i44 hD), hS, lv_cg (lv_sub hl [2, 3, 1, 0] rfl) (congrArg (fun z_ => ([(0, .ref o), (1, .int (nI r)), (2, .int (gW S 1 r)), (3, .int z_)] : List (Nat × Value))) el_i44_3)⟩
    clear hl hP hD hS
    revert ls
    revert locs
    revert H
    refine lp_H (fun (j : Nat) ls H locs => (j ≤ 5 * (cn - 1) - 5 * r) ∧ (va_P (dC, dI) vwCl [(o, .inr (4, [.int (nI 0), .ref aS, .ref aA, .ref aV, .int (nI (svN n)), .ref aB, .int ln, .int at_, .int wl, .ref aR, .int rm, .int ga, .int fi, .int se, .int ex, .long ha])), (aS, .inl (cI, 96, .inl (fDel (upd S 0 (nI (cn - 1))) (5 * r) j))), (aV, .inl (cI, 576, .inl (svV S V n)))] H) ∧ (va_D A [(o, .inr (4, [.int (nI 0), .ref aS, .ref aA, .ref aV, .int (nI (svN n)), .ref aB, .int ln, .int at_, .int wl, .ref aR, .int rm, .int ga, .int fi, .int se, .int ex, .long ha])), (aS, .inl (cI, 96, .inl (fDel (upd S 0 (nI (cn - 1))) (5 * r) j))), (aV, .inl (cI, 576, .inl (svV S V n)))]) ∧ (va_S A s.heap H locs) ∧ (lv_has ls 4 [(0, .ref o), (1, .int (nI r)), (2, .int (gW S 1 r)), (3, .int (nI ((5 * r) + j)))])) (fun (j : Nat) => 5 * (cn - 1) - 5 * r - j) 0 (fun q_ H locs ls hI ih44 => ?_)
    obtain ⟨j, rfl⟩ : ∃ z, z = q_ := ⟨_, rfl⟩
    obtain ⟨hj, hP, hD, hS, hl⟩ := hI
    refine lv_iload_n hx hb dX6_removeRecord_44 rfl (lv_at hl 3 rfl) ?_
    refine lv_iconst (v := (nI 5)) hx hb dX6_removeRecord_45 (by decide) ?_
    refine lv_aload_n hx hb dX6_removeRecord_46 rfl (lv_at hl 0 rfl) ?_
    refine va_get (D := (dC, dI)) (ci := 4) (v := .ref aS) (C := RX6) (T := TX6) (N := 16) hx hb hts hiX6 hown hK hP 0 rfl rfl 1 (by decide) hf7 (fun _ h9 => h9) rfl dX6_removeRecord_47 ?_
    refine lv_iconst (v := (nI 0)) hx hb dX6_removeRecord_50 (by decide) ?_
    refine n_iald hx hb hK hP 1 0 rfl rfl (show 0 < 96 from by omega) (by decide) dX6_removeRecord_51 ?_
    refine lv_cgi (show ((fDel (upd S 0 (nI (cn - 1))) (5 * r) j) 0) = (nI (cn - 1)) from (by rw [fDel_lo _ _ (by omega), pk_us])) ?_
    refine n_imul hx hb dX6_removeRecord_52 ?_
    refine n_icmp_ge (tgt := 82) hx hb dX6_removeRecord_53 (by decide) (by omega) (by omega) (fun c_53 => ?_) (fun c_53 => ?_)
    · obtain rfl : j = 5 * (cn - 1) - 5 * r := by omega
      refine lv_iconst (v := (nI 0)) hx hb dX6_removeRecord_82 (by decide) ?_
      refine lv_istore_n (lv' := [(3, .int (nI 0)), (0, .ref o), (1, .int (nI r)), (2, .int (gW S 1 r))]) hx hb dX6_removeRecord_83 rfl hl (by decide) rfl (fun ls hl => ?_)
      have ec_i84_aS : fDel (upd S 0 (nI (cn - 1))) (5 * r) (5 * (cn - 1) - 5 * r) = fClr (fDel (upd S 0 (nI (cn - 1))) (5 * r) (5 * (cn - 1) - 5 * r)) (cn - 1) 0 := by rfl
      have ew_i84 : ([(o, .inr (4, [.int (nI 0), .ref aS, .ref aA, .ref aV, .int (nI (svN n)), .ref aB, .int ln, .int at_, .int wl, .ref aR, .int rm, .int ga, .int fi, .int se, .int ex, .long ha])), (aS, .inl (cI, 96, .inl (fDel (upd S 0 (nI (cn - 1))) (5 * r) (5 * (cn - 1) - 5 * r)))), (aV, .inl (cI, 576, .inl (svV S V n)))] : va_W) = [(o, .inr (4, [.int (nI 0), .ref aS, .ref aA, .ref aV, .int (nI (svN n)), .ref aB, .int ln, .int at_, .int wl, .ref aR, .int rm, .int ga, .int fi, .int se, .int ex, .long ha])), (aS, .inl (cI, 96, .inl (fClr (fDel (upd S 0 (nI (cn - 1))) (5 * r) (5 * (cn - 1) - 5 * r)) (cn - 1) 0))), (aV, .inl (cI, 576, .inl (svV S V n)))] := (congrArg (fun z_ => ([(o, .inr (4, [.int (nI 0), .ref aS, .ref aA, .ref aV, .int (nI (svN n)), .ref aB, .int ln, .int at_, .int wl, .ref aR, .int rm, .int ga, .int fi, .int se, .int ex, .long ha])), (aS, .inl (cI, 96, .inl z_)), (aV, .inl (cI, 576, .inl (svV S V n)))] : va_W)) ec_i84_aS)
      have hI0 : (fun (w : Nat) ls H locs => (w ≤ 5) ∧ (va_P (dC, dI) vwCl [(o, .inr (4, [.int (nI 0), .ref aS, .ref aA, .ref aV, .int (nI (svN n)), .ref aB, .int ln, .int at_, .int wl, .ref aR, .int rm, .int ga, .int fi, .int se, .int ex, .long ha])), (aS, .inl (cI, 96, .inl (fClr (fDel (upd S 0 (nI (cn - 1))) (5 * r) (5 * (cn - 1) - 5 * r)) (cn - 1) w))), (aV, .inl (cI, 576, .inl (svV S V n)))] H) ∧ (va_D A [(o, .inr (4, [.int (nI 0), .ref aS, .ref aA, .ref aV, .int (nI (svN n)), .ref aB, .int ln, .int at_, .int wl, .ref aR, .int rm, .int ga, .int fi, .int se, .int ex, .long ha])), (aS, .inl (cI, 96, .inl (fClr (fDel (upd S 0 (nI (cn - 1))) (5 * r) (5 * (cn - 1) - 5 * r)) (cn - 1) w))), (aV, .inl (cI, 576, .inl (svV S V n)))]) ∧ (va_S A s.heap H locs) ∧ (lv_has ls 4 [(0, .ref o), (2, .int (gW S 1 r)), (3, .int (nI w))])) 0 ls H locs := ⟨by omega, (w_cgP ew_i84 hP), (w_cgD ew_i84 hD), hS, lv_sub hl [1, 3, 0] rfl⟩
      clear hl hP hD hS
      revert ls
      revert locs
      revert H
      refine lp_H (fun (w : Nat) ls H locs => (w ≤ 5) ∧ (va_P (dC, dI) vwCl [(o, .inr (4, [.int (nI 0), .ref aS, .ref aA, .ref aV, .int (nI (svN n)), .ref aB, .int ln, .int at_, .int wl, .ref aR, .int rm, .int ga, .int fi, .int se, .int ex, .long ha])), (aS, .inl (cI, 96, .inl (fClr (fDel (upd S 0 (nI (cn - 1))) (5 * r) (5 * (cn - 1) - 5 * r)) (cn - 1) w))), (aV, .inl (cI, 576, .inl (svV S V n)))] H) ∧ (va_D A [(o, .inr (4, [.int (nI 0), .ref aS, .ref aA, .ref aV, .int (nI (svN n)), .ref aB, .int ln, .int at_, .int wl, .ref aR, .int rm, .int ga, .int fi, .int se, .int ex, .long ha])), (aS, .inl (cI, 96, .inl (fClr (fDel (upd S 0 (nI (cn - 1))) (5 * r) (5 * (cn - 1) - 5 * r)) (cn - 1) w))), (aV, .inl (cI, 576, .inl (svV S V n)))]) ∧ (va_S A s.heap H locs) ∧ (lv_has ls 4 [(0, .ref o), (2, .int (gW S 1 r)), (3, .int (nI w))])) (fun (w : Nat) => 5 - w) 0 (fun q_ H locs ls hI ih84 => ?_)
      obtain ⟨w, rfl⟩ : ∃ z, z = q_ := ⟨_, rfl⟩
      obtain ⟨hw, hP, hD, hS, hl⟩ := hI
      refine lv_iload_n hx hb dX6_removeRecord_84 rfl (lv_at hl 2 rfl) ?_
      refine lv_iconst (v := (nI 5)) hx hb dX6_removeRecord_85 (by decide) ?_
      refine n_icmp_ge (tgt := 107) hx hb dX6_removeRecord_86 (by decide) (by omega) (by omega) (fun c_86 => ?_) (fun c_86 => ?_)
      · obtain rfl : w = 5 := by omega
        refine lv_iload_n hx hb dX6_removeRecord_107 rfl (lv_at hl 1 rfl) ?_
        have ec_r108_1_o_0 : (nI 0) = (nI (if sIn (nI r) 0 (S 0 - 1) = true then 0 else 1)) := by first | rfl | (first | (simp [fRem, c_10, c_53, Nat.not_lt.mpr c_53, c_86, Nat.not_lt.mpr c_86, ix_nI (show r < 2147483648 by omega)] <;> rfl))
        have ec_r108_1_o_4 : (nI (svN n)) = (nI (if sIn (nI r) 0 (S 0 - 1) = true then svN n else n)) := by first | rfl | (first | (simp [fRem, c_10, c_53, Nat.not_lt.mpr c_53, c_86, Nat.not_lt.mpr c_86, ix_nI (show r < 2147483648 by omega)] <;> rfl))
        have ec_r108_1_aS : fClr (fDel (upd S 0 (nI (cn - 1))) (5 * r) (5 * (cn - 1) - 5 * r)) (cn - 1) 5 = if sIn (nI r) 0 (S 0 - 1) = true then fRem S cn (ix (nI r)) else S := by first | rfl | (first | (simp [fRem, c_10, c_53, Nat.not_lt.mpr c_53, c_86, Nat.not_lt.mpr c_86, ix_nI (show r < 2147483648 by omega)] <;> rfl))
        have ec_r108_1_aV : svV S V n = if sIn (nI r) 0 (S 0 - 1) = true then svV S V n else V := by first | rfl | (first | (simp [fRem, c_10, c_53, Nat.not_lt.mpr c_53, c_86, Nat.not_lt.mpr c_86, ix_nI (show r < 2147483648 by omega)] <;> rfl))
        have ew_r108_1 : ([(o, .inr (4, [.int (nI 0), .ref aS, .ref aA, .ref aV, .int (nI (svN n)), .ref aB, .int ln, .int at_, .int wl, .ref aR, .int rm, .int ga, .int fi, .int se, .int ex, .long ha])), (aS, .inl (cI, 96, .inl (fClr (fDel (upd S 0 (nI (cn - 1))) (5 * r) (5 * (cn - 1) - 5 * r)) (cn - 1) 5))), (aV, .inl (cI, 576, .inl (svV S V n)))] : va_W) = [(o, .inr (4, [.int (nI (if sIn (nI r) 0 (S 0 - 1) = true then 0 else 1)), .ref aS, .ref aA, .ref aV, .int (nI (if sIn (nI r) 0 (S 0 - 1) = true then svN n else n)), .ref aB, .int ln, .int at_, .int wl, .ref aR, .int rm, .int ga, .int fi, .int se, .int ex, .long ha])), (aS, .inl (cI, 96, .inl (if sIn (nI r) 0 (S 0 - 1) = true then fRem S cn (ix (nI r)) else S))), (aV, .inl (cI, 576, .inl (if sIn (nI r) 0 (S 0 - 1) = true then svV S V n else V)))] := ((((congrArg (fun z_ => ([(o, .inr (4, [.int z_, .ref aS, .ref aA, .ref aV, .int (nI (svN n)), .ref aB, .int ln, .int at_, .int wl, .ref aR, .int rm, .int ga, .int fi, .int se, .int ex, .long ha])), (aS, .inl (cI, 96, .inl (fClr (fDel (upd S 0 (nI (cn - 1))) (5 * r) (5 * (cn - 1) - 5 * r)) (cn - 1) 5))), (aV, .inl (cI, 576, .inl (svV S V n)))] : va_W)) ec_r108_1_o_0).trans (congrArg (fun z_ => ([(o, .inr (4, [.int (nI (if sIn (nI r) 0 (S 0 - 1) = true then 0 else 1)), .ref aS, .ref aA, .ref aV, .int z_, .ref aB, .int ln, .int at_, .int wl, .ref aR, .int rm, .int ga, .int fi, .int se, .int ex, .long ha])), (aS, .inl (cI, 96, .inl (fClr (fDel (upd S 0 (nI (cn - 1))) (5 * r) (5 * (cn - 1) - 5 * r)) (cn - 1) 5))), (aV, .inl (cI, 576, .inl (svV S V n)))] : va_W)) ec_r108_1_o_4)).trans (congrArg (fun z_ => ([(o, .inr (4, [.int (nI (if sIn (nI r) 0 (S 0 - 1) = true then 0 else 1)), .ref aS, .ref aA, .ref aV, .int (nI (if sIn (nI r) 0 (S 0 - 1) = true then svN n else n)), .ref aB, .int ln, .int at_, .int wl, .ref aR, .int rm, .int ga, .int fi, .int se, .int ex, .long ha])), (aS, .inl (cI, 96, .inl z_)), (aV, .inl (cI, 576, .inl (svV S V n)))] : va_W)) ec_r108_1_aS)).trans (congrArg (fun z_ => ([(o, .inr (4, [.int (nI (if sIn (nI r) 0 (S 0 - 1) = true then 0 else 1)), .ref aS, .ref aA, .ref aV, .int (nI (if sIn (nI r) 0 (S 0 - 1) = true then svN n else n)), .ref aB, .int ln, .int at_, .int wl, .ref aR, .int rm, .int ga, .int fi, .int se, .int ex, .long ha])), (aS, .inl (cI, 96, .inl (if sIn (nI r) 0 (S 0 - 1) = true then fRem S cn (ix (nI r)) else S))), (aV, .inl (cI, 576, .inl z_))] : va_W)) ec_r108_1_aV))
        have hP9 := (w_cgP ew_r108_1 hP)
        have hD9 := (w_cgD ew_r108_1 hD)
        exact W.iret (v := (gW S 1 r)) hx hb hr (fun t ht hW => ⟨⟨(gW S 1 r), (), rfl, (show (gW S 1 r) = (if sIn (nI r) 0 (S 0 - 1) = true then gW S 1 (ix (nI r)) else 0) from by first | rfl | (first | (simp [fRem, c_10, c_53, Nat.not_lt.mpr c_53, c_86, Nat.not_lt.mpr c_86, ix_nI (show r < 2147483648 by omega)] <;> rfl))), by rw [ht]; exact hP9, va_K.moved hW.alike hK, hD9⟩, hS.F ht⟩) hS.2.2 dX6_removeRecord_108
      · refine lv_aload_n hx hb dX6_removeRecord_89 rfl (lv_at hl 0 rfl) ?_
        refine lv_aload_n hx hb dX6_removeRecord_90 rfl (lv_at hl 0 rfl) ?_
        refine va_get (D := (dC, dI)) (ci := 4) (v := .ref aS) (C := RX6) (T := TX6) (N := 16) hx hb hts hiX6 hown hK hP 0 rfl rfl 1 (by decide) hf7 (fun _ h9 => h9) rfl dX6_removeRecord_91 ?_
        refine lv_iconst (v := (nI 0)) hx hb dX6_removeRecord_94 (by decide) ?_
        refine n_iald hx hb hK hP 1 0 rfl rfl (show 0 < 96 from by omega) (by decide) dX6_removeRecord_95 ?_
        refine lv_cgi (show ((fClr (fDel (upd S 0 (nI (cn - 1))) (5 * r) (5 * (cn - 1) - 5 * r)) (cn - 1) w) 0) = (nI (cn - 1)) from (by rw [fClr_lo _ _ (by omega), fDel_lo _ _ (by omega), pk_us])) ?_
        refine lv_iload_n hx hb dX6_removeRecord_96 rfl (lv_at hl 2 rfl) ?_
        refine lv_iconst (v := (nI 0)) hx hb dX6_removeRecord_97 (by decide) ?_
        have hPc := hP.sub (ws' := [(o, .inr (4, [.int (nI 0), .ref aS, .ref aA, .ref aV, .int (nI (svN n)), .ref aB, .int ln, .int at_, .int wl, .ref aR, .int rm, .int ga, .int fi, .int se, .int ex, .long ha])), (aS, .inl (cI, 96, .inl (fClr (fDel (upd S 0 (nI (cn - 1))) (5 * r) (5 * (cn - 1) - 5 * r)) (cn - 1) w)))]) [0, 1] rfl
        have hDc := hD.sub (ws' := [(o, .inr (4, [.int (nI 0), .ref aS, .ref aA, .ref aV, .int (nI (svN n)), .ref aB, .int ln, .int at_, .int wl, .ref aR, .int rm, .int ga, .int fi, .int se, .int ex, .long ha])), (aS, .inl (cI, 96, .inl (fClr (fDel (upd S 0 (nI (cn - 1))) (5 * r) (5 * (cn - 1) - 5 * r)) (cn - 1) w)))]) [0, 1] (by decide) rfl
        have hFc := va_free (wc := [(o, .inr (4, [.int (nI 0), .ref aS, .ref aA, .ref aV, .int (nI (svN n)), .ref aB, .int ln, .int at_, .int wl, .ref aR, .int rm, .int ga, .int fi, .int se, .int ex, .long ha])), (aS, .inl (cI, 96, .inl (fClr (fDel (upd S 0 (nI (cn - 1))) (5 * r) (5 * (cn - 1) - 5 * r)) (cn - 1) w)))]) hD hS hA [0, 1] rfl
        refine va_callv (va_runV (As := [.int (nI (cn - 1)), .int (nI w), .int (nI 0)]) (rest := []) ⟨hx, hb, hml, hown, hts⟩ (kX6_lay l dC dI cI cV cW H.size o 0 aS aA aV (nI (svN n)) aB ln at_ wl aR rm ga fi se ex ha (fClr (fDel (upd S 0 (nI (cn - 1))) (5 * r) (5 * (cn - 1) - 5 * r)) (cn - 1) w) (cn - 1) w 0 (by omega) (by omega)) (cwV 3 hts gX6_removeRecord_X6_lay rfl rfl rfl hdX6_lay ⟨Nat.le_of_ble_eq_true rfl, Nat.le_of_ble_eq_true rfl⟩) (pW_V hK hP hPc hDc 0 4 rfl rfl rfl) rfl rfl hl.1 rfl (lv_room (Nat.le_of_ble_eq_true rfl)) dX6_removeRecord_98 ⟨Nat.zero_le _, Nat.zero_le _⟩) hS (fun q _ h => hFc q h) hFc (fun u_ t_ H1 locs ht_ hvm_ hw_ hB_ hz_ hk_ hS => ?_)
        obtain ⟨hP1, -, hD1⟩ := hB_
        rw [ht_] at hP1
        obtain ⟨hP, hD⟩ := va_join (wr := [(aV, .inl (cI, 576, .inl (svV S V n)))]) (w1 := [(o, .inr (4, [.int (nI 0), .ref aS, .ref aA, .ref aV, .int (nI (svN n)), .ref aB, .int ln, .int at_, .int wl, .ref aR, .int rm, .int ga, .int fi, .int se, .int ex, .long ha])), (aS, .inl (cI, 96, .inl (upd (fClr (fDel (upd S 0 (nI (cn - 1))) (5 * r) (5 * (cn - 1) - 5 * r)) (cn - 1) w) (15 + (5 * (cn - 1)) + w) 0)))]) hP hD [0, 1] [2] rfl rfl (by decide) (by decide) hk_ hFc hP1 hD1
        clear hP1 hD1 hPc hDc hFc hk_ hz_ hvm_ ht_
        generalize H1 = H at hP hS ⊢
        replace hP : va_P (dC, dI) vwCl [(o, .inr (4, [.int (nI 0), .ref aS, .ref aA, .ref aV, .int (nI (svN n)), .ref aB, .int ln, .int at_, .int wl, .ref aR, .int rm, .int ga, .int fi, .int se, .int ex, .long ha])), (aS, .inl (cI, 96, .inl (upd (fClr (fDel (upd S 0 (nI (cn - 1))) (5 * r) (5 * (cn - 1) - 5 * r)) (cn - 1) w) (15 + (5 * (cn - 1)) + w) 0))), (aV, .inl (cI, 576, .inl (svV S V n)))] H := hP.sub [1, 2, 0] rfl
        replace hD : va_D A [(o, .inr (4, [.int (nI 0), .ref aS, .ref aA, .ref aV, .int (nI (svN n)), .ref aB, .int ln, .int at_, .int wl, .ref aR, .int rm, .int ga, .int fi, .int se, .int ex, .long ha])), (aS, .inl (cI, 96, .inl (upd (fClr (fDel (upd S 0 (nI (cn - 1))) (5 * r) (5 * (cn - 1) - 5 * r)) (cn - 1) w) (15 + (5 * (cn - 1)) + w) 0))), (aV, .inl (cI, 576, .inl (svV S V n)))] := hD.sub [1, 2, 0] (by decide) rfl
        refine W.widen (k := 0) (n := 0) (Nat.le_refl 0) (Nat.le_refl 0) ?_
        refine lv_iinc (v := (nI (w + 1))) (lv' := [(3, .int (nI (w + 1))), (0, .ref o), (2, .int (gW S 1 r))]) hx hb dX6_removeRecord_101 hl (k := 2) rfl (n_inc _ 1) (by decide) rfl (fun ls hl => ?_)
        refine lv_goto (tgt := 84) hx hb dX6_removeRecord_104 (by decide) ?_
        have ec_b84_2_aS : upd (fClr (fDel (upd S 0 (nI (cn - 1))) (5 * r) (5 * (cn - 1) - 5 * r)) (cn - 1) w) (15 + (5 * (cn - 1)) + w) 0 = fClr (fDel (upd S 0 (nI (cn - 1))) (5 * r) (5 * (cn - 1) - 5 * r)) (cn - 1) (w + 1) := by rfl
        have ew_b84_2 : ([(o, .inr (4, [.int (nI 0), .ref aS, .ref aA, .ref aV, .int (nI (svN n)), .ref aB, .int ln, .int at_, .int wl, .ref aR, .int rm, .int ga, .int fi, .int se, .int ex, .long ha])), (aS, .inl (cI, 96, .inl (upd (fClr (fDel (upd S 0 (nI (cn - 1))) (5 * r) (5 * (cn - 1) - 5 * r)) (cn - 1) w) (15 + (5 * (cn - 1)) + w) 0))), (aV, .inl (cI, 576, .inl (svV S V n)))] : va_W) = [(o, .inr (4, [.int (nI 0), .ref aS, .ref aA, .ref aV, .int (nI (svN n)), .ref aB, .int ln, .int at_, .int wl, .ref aR, .int rm, .int ga, .int fi, .int se, .int ex, .long ha])), (aS, .inl (cI, 96, .inl (fClr (fDel (upd S 0 (nI (cn - 1))) (5 * r) (5 * (cn - 1) - 5 * r)) (cn - 1) (w + 1)))), (aV, .inl (cI, 576, .inl (svV S V n)))] := (congrArg (fun z_ => ([(o, .inr (4, [.int (nI 0), .ref aS, .ref aA, .ref aV, .int (nI (svN n)), .ref aB, .int ln, .int at_, .int wl, .ref aR, .int rm, .int ga, .int fi, .int se, .int ex, .long ha])), (aS, .inl (cI, 96, .inl z_)), (aV, .inl (cI, 576, .inl (svV S V n)))] : va_W)) ec_b84_2_aS)
        exact ih84 (w + 1) H locs ls ⟨by omega, (w_cgP ew_b84_2 hP), (w_cgD ew_b84_2 hD), hS, lv_sub hl [1, 2, 0] rfl⟩ (by first | omega | (dsimp only; omega))
    · refine lv_aload_n hx hb dX6_removeRecord_56 rfl (lv_at hl 0 rfl) ?_
      refine va_get (D := (dC, dI)) (ci := 4) (v := .ref aS) (C := RX6) (T := TX6) (N := 16) hx hb hts hiX6 hown hK hP 0 rfl rfl 1 (by decide) hf7 (fun _ h9 => h9) rfl dX6_removeRecord_57 ?_
      refine lv_bipush (v := (nI 15)) hx hb dX6_removeRecord_60 (by decide) ?_
      refine lv_iload_n hx hb dX6_removeRecord_62 rfl (lv_at hl 3 rfl) ?_
      refine n_iadd hx hb dX6_removeRecord_63 ?_
      refine lv_aload_n hx hb dX6_removeRecord_64 rfl (lv_at hl 0 rfl) ?_
      refine va_get (D := (dC, dI)) (ci := 4) (v := .ref aS) (C := RX6) (T := TX6) (N := 16) hx hb hts hiX6 hown hK hP 0 rfl rfl 1 (by decide) hf7 (fun _ h9 => h9) rfl dX6_removeRecord_65 ?_
      refine lv_bipush (v := (nI 15)) hx hb dX6_removeRecord_68 (by decide) ?_
      refine lv_iload_n hx hb dX6_removeRecord_70 rfl (lv_at hl 3 rfl) ?_
      refine n_iadd hx hb dX6_removeRecord_71 ?_
      refine lv_iconst (v := (nI 5)) hx hb dX6_removeRecord_72 (by decide) ?_
      refine n_iadd hx hb dX6_removeRecord_73 ?_
      refine n_iald hx hb hK hP 1 0 rfl rfl (show (15 + ((5 * r) + j)) + 5 < 96 from by omega) (by decide) dX6_removeRecord_74 ?_
      refine n_iast hx hb hK hP hD hS 1 0 rfl rfl (show 15 + ((5 * r) + j) < 96 from by omega) (by decide) dX6_removeRecord_75 (fun H locs hP hD hS => ?_)
      replace hP : va_P (dC, dI) vwCl [(o, .inr (4, [.int (nI 0), .ref aS, .ref aA, .ref aV, .int (nI (svN n)), .ref aB, .int ln, .int at_, .int wl, .ref aR, .int rm, .int ga, .int fi, .int se, .int ex, .long ha])), (aS, .inl (cI, 96, .inl (upd (fDel (upd S 0 (nI (cn - 1))) (5 * r) j) (15 + ((5 * r) + j)) ((fDel (upd S 0 (nI (cn - 1))) (5 * r) j) ((15 + ((5 * r) + j)) + 5))))), (aV, .inl (cI, 576, .inl (svV S V n)))] H := hP
      replace hD : va_D A [(o, .inr (4, [.int (nI 0), .ref aS, .ref aA, .ref aV, .int (nI (svN n)), .ref aB, .int ln, .int at_, .int wl, .ref aR, .int rm, .int ga, .int fi, .int se, .int ex, .long ha])), (aS, .inl (cI, 96, .inl (upd (fDel (upd S 0 (nI (cn - 1))) (5 * r) j) (15 + ((5 * r) + j)) ((fDel (upd S 0 (nI (cn - 1))) (5 * r) j) ((15 + ((5 * r) + j)) + 5))))), (aV, .inl (cI, 576, .inl (svV S V n)))] := hD
      refine lv_iinc (v := (nI (((5 * r) + j) + 1))) (lv' := [(3, .int (nI (((5 * r) + j) + 1))), (0, .ref o), (1, .int (nI r)), (2, .int (gW S 1 r))]) hx hb dX6_removeRecord_76 hl (k := 3) rfl (n_inc _ 1) (by decide) rfl (fun ls hl => ?_)
      refine lv_goto (tgt := 44) hx hb dX6_removeRecord_79 (by decide) ?_
      have ec_b44_3_aS : upd (fDel (upd S 0 (nI (cn - 1))) (5 * r) j) (15 + ((5 * r) + j)) ((fDel (upd S 0 (nI (cn - 1))) (5 * r) j) ((15 + ((5 * r) + j)) + 5)) = fDel (upd S 0 (nI (cn - 1))) (5 * r) (j + 1) := by rfl
      have ew_b44_3 : ([(o, .inr (4, [.int (nI 0), .ref aS, .ref aA, .ref aV, .int (nI (svN n)), .ref aB, .int ln, .int at_, .int wl, .ref aR, .int rm, .int ga, .int fi, .int se, .int ex, .long ha])), (aS, .inl (cI, 96, .inl (upd (fDel (upd S 0 (nI (cn - 1))) (5 * r) j) (15 + ((5 * r) + j)) ((fDel (upd S 0 (nI (cn - 1))) (5 * r) j) ((15 + ((5 * r) + j)) + 5))))), (aV, .inl (cI, 576, .inl (svV S V n)))] : va_W) = [(o, .inr (4, [.int (nI 0), .ref aS, .ref aA, .ref aV, .int (nI (svN n)), .ref aB, .int ln, .int at_, .int wl, .ref aR, .int rm, .int ga, .int fi, .int se, .int ex, .long ha])), (aS, .inl (cI, 96, .inl (fDel (upd S 0 (nI (cn - 1))) (5 * r) (j + 1)))), (aV, .inl (cI, 576, .inl (svV S V n)))] := (congrArg (fun z_ => ([(o, .inr (4, [.int (nI 0), .ref aS, .ref aA, .ref aV, .int (nI (svN n)), .ref aB, .int ln, .int at_, .int wl, .ref aR, .int rm, .int ga, .int fi, .int se, .int ex, .long ha])), (aS, .inl (cI, 96, .inl z_)), (aV, .inl (cI, 576, .inl (svV S V n)))] : va_W)) ec_b44_3_aS)
      have el_b44_3_3 : (nI (((5 * r) + j) + 1)) = (nI ((5 * r) + (j + 1))) := by rfl
      exact ih44 (j + 1) H locs ls ⟨by omega, (w_cgP ew_b44_3 hP), (w_cgD ew_b44_3 hD), hS, lv_cg (lv_sub hl [1, 2, 3, 0] rfl) (congrArg (fun z_ => ([(0, .ref o), (1, .int (nI r)), (2, .int (gW S 1 r)), (3, .int z_)] : List (Nat × Value))) el_b44_3_3)⟩ (by first | omega | (dsimp only; omega))
  · refine lv_aload_n hx hb dX6_removeRecord_13 rfl (lv_at hl 0 rfl) ?_
    refine lv_iconst (v := (nI 1)) hx hb dX6_removeRecord_14 (by decide) ?_
    have hPc := hP.sub (ws' := [(o, .inr (4, [.int (nI 0), .ref aS, .ref aA, .ref aV, .int (nI n), .ref aB, .int ln, .int at_, .int wl, .ref aR, .int rm, .int ga, .int fi, .int se, .int ex, .long ha]))]) [0] rfl
    have hDc := hD.sub (ws' := [(o, .inr (4, [.int (nI 0), .ref aS, .ref aA, .ref aV, .int (nI n), .ref aB, .int ln, .int at_, .int wl, .ref aR, .int rm, .int ga, .int fi, .int se, .int ex, .long ha]))]) [0] (by decide) rfl
    have hFc := va_free (wc := [(o, .inr (4, [.int (nI 0), .ref aS, .ref aA, .ref aV, .int (nI n), .ref aB, .int ln, .int at_, .int wl, .ref aR, .int rm, .int ga, .int fi, .int se, .int ex, .long ha]))]) hD hS hA [0] rfl
    refine va_calli (va_runV (As := [.int (nI 1)]) (rest := []) ⟨hx, hb, hml, hown, hts⟩ (kX6_fails l dC dI cI cV cW H.size o 0 aS aA aV (nI n) aB ln at_ wl aR rm ga fi se ex ha 1) (cwV 1 hts gX6_removeRecord_X6_fails rfl rfl rfl hdX6_fails ⟨Nat.le_of_ble_eq_true rfl, Nat.le_of_ble_eq_true rfl⟩) (pW_V hK hP hPc hDc 0 4 rfl rfl rfl) rfl rfl hl.1 rfl (lv_room (Nat.le_of_ble_eq_true rfl)) dX6_removeRecord_15 ⟨Nat.zero_le _, Nat.zero_le _⟩) hS (fun q _ h => hFc q h) hFc (fun r_15 u_ t_ H1 locs ht_ hvm_ hw_ hB_ hz_ hk_ hS => ?_)
    obtain ⟨hP1, -, hD1⟩ := hB_
    rw [ht_] at hP1
    obtain ⟨hP, hD⟩ := va_join (wr := [(aS, .inl (cI, 96, .inl S)), (aV, .inl (cI, 576, .inl V))]) (w1 := [(o, .inr (4, [.int 1, .ref aS, .ref aA, .ref aV, .int (nI n), .ref aB, .int ln, .int at_, .int wl, .ref aR, .int rm, .int ga, .int fi, .int se, .int ex, .long ha]))]) hP hD [0] [1, 2] rfl rfl (by decide) (by decide) hk_ hFc hP1 hD1
    clear hP1 hD1 hPc hDc hFc hk_ hz_ hvm_ ht_
    generalize H1 = H at hP hS ⊢
    replace hP : va_P (dC, dI) vwCl [(o, .inr (4, [.int 1, .ref aS, .ref aA, .ref aV, .int (nI n), .ref aB, .int ln, .int at_, .int wl, .ref aR, .int rm, .int ga, .int fi, .int se, .int ex, .long ha])), (aS, .inl (cI, 96, .inl S)), (aV, .inl (cI, 576, .inl V))] H := hP.sub [2, 0, 1] rfl
    replace hD : va_D A [(o, .inr (4, [.int 1, .ref aS, .ref aA, .ref aV, .int (nI n), .ref aB, .int ln, .int at_, .int wl, .ref aR, .int rm, .int ga, .int fi, .int se, .int ex, .long ha])), (aS, .inl (cI, 96, .inl S)), (aV, .inl (cI, 576, .inl V))] := hD.sub [2, 0, 1] (by decide) rfl
    refine W.widen (k := 0) (n := 0) (Nat.le_refl 0) (Nat.le_refl 0) ?_
    have hw_ : r_15 = (nI 0) := hw_
    subst hw_
    have ec_r18_4_o_0 : 1 = (nI (if sIn x 0 (S 0 - 1) = true then 0 else 1)) := by first | rfl | (first | (simp [fRem, c_10] <;> rfl))
    have ec_r18_4_o_4 : (nI n) = (nI (if sIn x 0 (S 0 - 1) = true then svN n else n)) := by first | rfl | (first | (simp [fRem, c_10] <;> rfl))
    have ec_r18_4_aS : S = if sIn x 0 (S 0 - 1) = true then fRem S cn (ix x) else S := by first | rfl | (first | (simp [fRem, c_10] <;> rfl))
    have ec_r18_4_aV : V = if sIn x 0 (S 0 - 1) = true then svV S V n else V := by first | rfl | (first | (simp [fRem, c_10] <;> rfl))
    have ew_r18_4 : ([(o, .inr (4, [.int 1, .ref aS, .ref aA, .ref aV, .int (nI n), .ref aB, .int ln, .int at_, .int wl, .ref aR, .int rm, .int ga, .int fi, .int se, .int ex, .long ha])), (aS, .inl (cI, 96, .inl S)), (aV, .inl (cI, 576, .inl V))] : va_W) = [(o, .inr (4, [.int (nI (if sIn x 0 (S 0 - 1) = true then 0 else 1)), .ref aS, .ref aA, .ref aV, .int (nI (if sIn x 0 (S 0 - 1) = true then svN n else n)), .ref aB, .int ln, .int at_, .int wl, .ref aR, .int rm, .int ga, .int fi, .int se, .int ex, .long ha])), (aS, .inl (cI, 96, .inl (if sIn x 0 (S 0 - 1) = true then fRem S cn (ix x) else S))), (aV, .inl (cI, 576, .inl (if sIn x 0 (S 0 - 1) = true then svV S V n else V)))] := ((((congrArg (fun z_ => ([(o, .inr (4, [.int z_, .ref aS, .ref aA, .ref aV, .int (nI n), .ref aB, .int ln, .int at_, .int wl, .ref aR, .int rm, .int ga, .int fi, .int se, .int ex, .long ha])), (aS, .inl (cI, 96, .inl S)), (aV, .inl (cI, 576, .inl V))] : va_W)) ec_r18_4_o_0).trans (congrArg (fun z_ => ([(o, .inr (4, [.int (nI (if sIn x 0 (S 0 - 1) = true then 0 else 1)), .ref aS, .ref aA, .ref aV, .int z_, .ref aB, .int ln, .int at_, .int wl, .ref aR, .int rm, .int ga, .int fi, .int se, .int ex, .long ha])), (aS, .inl (cI, 96, .inl S)), (aV, .inl (cI, 576, .inl V))] : va_W)) ec_r18_4_o_4)).trans (congrArg (fun z_ => ([(o, .inr (4, [.int (nI (if sIn x 0 (S 0 - 1) = true then 0 else 1)), .ref aS, .ref aA, .ref aV, .int (nI (if sIn x 0 (S 0 - 1) = true then svN n else n)), .ref aB, .int ln, .int at_, .int wl, .ref aR, .int rm, .int ga, .int fi, .int se, .int ex, .long ha])), (aS, .inl (cI, 96, .inl z_)), (aV, .inl (cI, 576, .inl V))] : va_W)) ec_r18_4_aS)).trans (congrArg (fun z_ => ([(o, .inr (4, [.int (nI (if sIn x 0 (S 0 - 1) = true then 0 else 1)), .ref aS, .ref aA, .ref aV, .int (nI (if sIn x 0 (S 0 - 1) = true then svN n else n)), .ref aB, .int ln, .int at_, .int wl, .ref aR, .int rm, .int ga, .int fi, .int se, .int ex, .long ha])), (aS, .inl (cI, 96, .inl (if sIn x 0 (S 0 - 1) = true then fRem S cn (ix x) else S))), (aV, .inl (cI, 576, .inl z_))] : va_W)) ec_r18_4_aV))
    have hP9 := (w_cgP ew_r18_4 hP)
    have hD9 := (w_cgD ew_r18_4 hD)
    exact W.iret (v := (nI 0)) hx hb hr (fun t ht hW => ⟨⟨(nI 0), (), rfl, (show (nI 0) = (if sIn x 0 (S 0 - 1) = true then gW S 1 (ix x) else 0) from by first | rfl | (first | (simp [fRem, c_10] <;> rfl))), by rw [ht]; exact hP9, va_K.moved hW.alike hK, hD9⟩, hS.F ht⟩) hS.2.2 dX6_removeRecord_18
set_option maxHeartbeats 4000000 in
set_option maxRecDepth 100000 in
theorem kX6_undo (l : Launch) (dC : Nat → ClassId) (dI : Nat → Nat → Nat) (cI cV cW : ClassId) (sz : Nat) (o : Nat) (th : Int32) (aS : Nat) (aA : Nat) (aV : Nat) (aB : Nat) (ln : Int32) (at_ : Int32) (wl : Int32) (aR : Nat) (rm : Int32) (ga : Int32) (fi : Int32) (se : Int32) (ex : Int32) (ha : Int64) (S : Nat → Int32) (V : Nat → Int32) (n : Nat) (hn : n ≤ 6) : Met l yX6_undo wsX6_undo ({ frames := 1, cells := 0, slots := 0, locals := 21 }) (pW (dC, dI) (tyS cI cV cW) sz [.ref o] [(o, .inr (4, [.int th, .ref aS, .ref aA, .ref aV, .int (nI n), .ref aB, .int ln, .int at_, .int wl, .ref aR, .int rm, .int ga, .int fi, .int se, .int ex, .long ha])), (aS, .inl (cI, 96, .inl S)), (aV, .inl (cI, 576, .inl V))]) (va_Qi (fun (r_ : Int32) (_ : Unit) => r_ = (nI (n - 1))) (fun (_ : Unit) t => qB (dC, dI) (tyS cI cV cW) (va_A [(o, .inr (4, [.int th, .ref aS, .ref aA, .ref aV, .int (nI n), .ref aB, .int ln, .int at_, .int wl, .ref aR, .int rm, .int ga, .int fi, .int se, .int ex, .long ha])), (aS, .inl (cI, 96, .inl S)), (aV, .inl (cI, 576, .inl V))] sz) [(o, .inr (4, [.int (nI (if n = 0 then 1 else 0)), .ref aS, .ref aA, .ref aV, .int (nI (n - 1)), .ref aB, .int ln, .int at_, .int wl, .ref aR, .int rm, .int ga, .int fi, .int se, .int ex, .long ha])), (aS, .inl (cI, 96, .inl (if n = 0 then S else fGet V S (96 * (n - 1)) 96))), (aV, .inl (cI, 576, .inl V))] t) (va_A [(o, .inr (4, [.int th, .ref aS, .ref aA, .ref aV, .int (nI n), .ref aB, .int ln, .int at_, .int wl, .ref aR, .int rm, .int ga, .int fi, .int se, .int ex, .long ha])), (aS, .inl (cI, 96, .inl S)), (aV, .inl (cI, 576, .inl V))] sz)) 0 0 (va_A [(o, .inr (4, [.int th, .ref aS, .ref aA, .ref aV, .int (nI n), .ref aB, .int ln, .int at_, .int wl, .ref aR, .int rm, .int ga, .int fi, .int se, .int ex, .long ha])), (aS, .inl (cI, 96, .inl S)), (aV, .inl (cI, 576, .inl V))] sz) := by
  refine Met.ofW (cc := cX6_undo) (maxL := 2) (ret := (some .int)) (by decide) rfl ?_
  intro p e s m args below meth c s₁ B hml hv
  obtain ⟨rfl, hsz, hP, hK, hD0⟩ := hv
  have hx := B.exec
  have hb := B.bytes
  have hr := B.returns
  have hts := atoms_spec (ws := wsX6_undo) B.pre
  have hown : s.vm.findClass RX6 = some m.cls := findClass_of_methodNamed B.named
  have hlocks := B.notSynchronized
  subst hsz
  have hD := hD0.self (sz := s.heap.size)
  generalize hAe : va_A [(o, .inr (4, [.int th, .ref aS, .ref aA, .ref aV, .int (nI n), .ref aB, .int ln, .int at_, .int wl, .ref aR, .int rm, .int ga, .int fi, .int se, .int ex, .long ha])), (aS, .inl (cI, 96, .inl S)), (aV, .inl (cI, 576, .inl V))] s.heap.size = A at hD ⊢
  have hA : ∀ q : Nat, s.heap.size ≤ q → A q := fun q h => by rw [← hAe]; exact Or.inr h
  have hS : va_S A s.heap s.heap [] := va_S.rf
  refine w_gen hP hS (fun H locs hP hS => ?_)
  have hf25 := hts (.fieldLink RX6 25 "VaultShelvesModel" "thrown" "I") (by decide +kernel)
  have hf33 := hts (.fieldLink RX6 33 "VaultShelvesModel" "savedMany" "I") (by decide +kernel)
  have hf7 := hts (.fieldLink RX6 7 "VaultShelvesModel" "s" "[I") (by decide +kernel)
  have hf16 := hts (.fieldLink RX6 16 "VaultShelvesModel" "saved" "[I") (by decide +kernel)
  have hiX6 : ∀ w ∈ u_ws RX6 TX6 16, w ∈ wsX6_undo := by decide +kernel
  have hl := lv_entry ([.ref o]) (n := 2) (Nat.le_of_ble_eq_true rfl)
  rw [lg_entry_eq]
  generalize (lg_sl ([.ref o]) ++ List.replicate (2 - (lg_sl ([.ref o])).length) Slot.unset).toArray = ls at hl ⊢
  replace hl : lv_has ls 2 [(0, .ref o)] := hl
  refine lv_aload_n hx hb dX6_undo_0 rfl (lv_at hl 0 rfl) ?_
  refine lv_iconst (v := (nI 0)) hx hb dX6_undo_1 (by decide) ?_
  refine va_put (D := (dC, dI)) (ci := 4) (v := .int (nI 0)) (ty := .int) (C := RX6) (T := TX6) (N := 16) hx hb hts hiX6 tyX6 tyX6_ok nmX6 hown hK hP hD hS 0 rfl rfl 0 (by decide) hf25 (fun _ h9 => h9) rfl (by decide +kernel) rfl rfl (Nat.le_of_ble_eq_true rfl) dX6_undo_2 (fun H locs hP hD hS => ?_)
  replace hP : va_P (dC, dI) vwCl [(o, .inr (4, [.int (nI 0), .ref aS, .ref aA, .ref aV, .int (nI n), .ref aB, .int ln, .int at_, .int wl, .ref aR, .int rm, .int ga, .int fi, .int se, .int ex, .long ha])), (aS, .inl (cI, 96, .inl S)), (aV, .inl (cI, 576, .inl V))] H := hP
  replace hD : va_D A [(o, .inr (4, [.int (nI 0), .ref aS, .ref aA, .ref aV, .int (nI n), .ref aB, .int ln, .int at_, .int wl, .ref aR, .int rm, .int ga, .int fi, .int se, .int ex, .long ha])), (aS, .inl (cI, 96, .inl S)), (aV, .inl (cI, 576, .inl V))] := hD
  refine lv_aload_n hx hb dX6_undo_5 rfl (lv_at hl 0 rfl) ?_
  refine va_get (D := (dC, dI)) (ci := 4) (v := .int (nI n)) (C := RX6) (T := TX6) (N := 16) hx hb hts hiX6 hown hK hP 0 rfl rfl 4 (by decide) hf33 (fun _ h9 => h9) rfl dX6_undo_6 ?_
  refine n_if_ne (tgt := 18) hx hb dX6_undo_9 (by decide) (by omega) (fun c_9 => ?_) (fun c_9 => ?_)
  · refine lv_aload_n hx hb dX6_undo_18 rfl (lv_at hl 0 rfl) ?_
    refine lv_dup hx hb dX6_undo_19 rfl ?_
    refine va_get (D := (dC, dI)) (ci := 4) (v := .int (nI n)) (C := RX6) (T := TX6) (N := 16) hx hb hts hiX6 hown hK hP 0 rfl rfl 4 (by decide) hf33 (fun _ h9 => h9) rfl dX6_undo_20 ?_
    refine lv_iconst (v := (nI 1)) hx hb dX6_undo_23 (by decide) ?_
    refine n_isub hx hb dX6_undo_24 (by omega) ?_
    refine va_put (D := (dC, dI)) (ci := 4) (v := .int (nI (n - 1))) (ty := .int) (C := RX6) (T := TX6) (N := 16) hx hb hts hiX6 tyX6 tyX6_ok nmX6 hown hK hP hD hS 0 rfl rfl 4 (by decide) hf33 (fun _ h9 => h9) rfl (by decide +kernel) rfl rfl (Nat.le_of_ble_eq_true rfl) dX6_undo_25 (fun H locs hP hD hS => ?_)
    replace hP : va_P (dC, dI) vwCl [(o, .inr (4, [.int (nI 0), .ref aS, .ref aA, .ref aV, .int (nI (n - 1)), .ref aB, .int ln, .int at_, .int wl, .ref aR, .int rm, .int ga, .int fi, .int se, .int ex, .long ha])), (aS, .inl (cI, 96, .inl S)), (aV, .inl (cI, 576, .inl V))] H := hP
    replace hD : va_D A [(o, .inr (4, [.int (nI 0), .ref aS, .ref aA, .ref aV, .int (nI (n - 1)), .ref aB, .int ln, .int at_, .int wl, .ref aR, .int rm, .int ga, .int fi, .int se, .int ex, .long ha])), (aS, .inl (cI, 96, .inl S)), (aV, .inl (cI, 576, .inl V))] := hD
    refine lv_iconst (v := (nI 0)) hx hb dX6_undo_28 (by decide) ?_
    refine lv_istore_n (lv' := [(1, .int (nI 0)), (0, .ref o)]) hx hb dX6_undo_29 rfl hl (by decide) rfl (fun ls hl => ?_)
    have ec_i30_aS : S = fGet V S (96 * (n - 1)) 0 := by rfl
    have ew_i30 : ([(o, .inr (4, [.int (nI 0), .ref aS, .ref aA, .ref aV, .int (nI (n - 1)), .ref aB, .int ln, .int at_, .int wl, .ref aR, .int rm, .int ga, .int fi, .int se, .int ex, .long ha])), (aS, .inl (cI, 96, .inl S)), (aV, .inl (cI, 576, .inl V))] : va_W) = [(o, .inr (4, [.int (nI 0), .ref aS, .ref aA, .ref aV, .int (nI (n - 1)), .ref aB, .int ln, .int at_, .int wl, .ref aR, .int rm, .int ga, .int fi, .int se, .int ex, .long ha])), (aS, .inl (cI, 96, .inl (fGet V S (96 * (n - 1)) 0))), (aV, .inl (cI, 576, .inl V))] := (congrArg (fun z_ => ([(o, .inr (4, [.int (nI 0), .ref aS, .ref aA, .ref aV, .int (nI (n - 1)), .ref aB, .int ln, .int at_, .int wl, .ref aR, .int rm, .int ga, .int fi, .int se, .int ex, .long ha])), (aS, .inl (cI, 96, .inl z_)), (aV, .inl (cI, 576, .inl V))] : va_W)) ec_i30_aS)
    have hI0 : (fun (j : Nat) ls H locs => (j ≤ 96) ∧ (va_P (dC, dI) vwCl [(o, .inr (4, [.int (nI 0), .ref aS, .ref aA, .ref aV, .int (nI (n - 1)), .ref aB, .int ln, .int at_, .int wl, .ref aR, .int rm, .int ga, .int fi, .int se, .int ex, .long ha])), (aS, .inl (cI, 96, .inl (fGet V S (96 * (n - 1)) j))), (aV, .inl (cI, 576, .inl V))] H) ∧ (va_D A [(o, .inr (4, [.int (nI 0), .ref aS, .ref aA, .ref aV, .int (nI (n - 1)), .ref aB, .int ln, .int at_, .int wl, .ref aR, .int rm, .int ga, .int fi, .int se, .int ex, .long ha])), (aS, .inl (cI, 96, .inl (fGet V S (96 * (n - 1)) j))), (aV, .inl (cI, 576, .inl V))]) ∧ (va_S A s.heap H locs) ∧ (lv_has ls 2 [(0, .ref o), (1, .int (nI j))])) 0 ls H locs := ⟨by omega, (w_cgP ew_i30 hP), (w_cgD ew_i30 hD), hS, lv_sub hl [1, 0] rfl⟩
    clear hl hP hD hS
    revert ls
    revert locs
    revert H
    refine lp_H (fun (j : Nat) ls H locs => (j ≤ 96) ∧ (va_P (dC, dI) vwCl [(o, .inr (4, [.int (nI 0), .ref aS, .ref aA, .ref aV, .int (nI (n - 1)), .ref aB, .int ln, .int at_, .int wl, .ref aR, .int rm, .int ga, .int fi, .int se, .int ex, .long ha])), (aS, .inl (cI, 96, .inl (fGet V S (96 * (n - 1)) j))), (aV, .inl (cI, 576, .inl V))] H) ∧ (va_D A [(o, .inr (4, [.int (nI 0), .ref aS, .ref aA, .ref aV, .int (nI (n - 1)), .ref aB, .int ln, .int at_, .int wl, .ref aR, .int rm, .int ga, .int fi, .int se, .int ex, .long ha])), (aS, .inl (cI, 96, .inl (fGet V S (96 * (n - 1)) j))), (aV, .inl (cI, 576, .inl V))]) ∧ (va_S A s.heap H locs) ∧ (lv_has ls 2 [(0, .ref o), (1, .int (nI j))])) (fun (j : Nat) => 96 - j) 0 (fun q_ H locs ls hI ih30 => ?_)
    obtain ⟨j, rfl⟩ : ∃ z, z = q_ := ⟨_, rfl⟩
    obtain ⟨hj, hP, hD, hS, hl⟩ := hI
    refine lv_iload_n hx hb dX6_undo_30 rfl (lv_at hl 1 rfl) ?_
    refine lv_bipush (v := (nI 96)) hx hb dX6_undo_31 (by decide) ?_
    refine n_icmp_ge (tgt := 62) hx hb dX6_undo_33 (by decide) (by omega) (by omega) (fun c_33 => ?_) (fun c_33 => ?_)
    · obtain rfl : j = 96 := by omega
      refine lv_aload_n hx hb dX6_undo_62 rfl (lv_at hl 0 rfl) ?_
      refine va_get (D := (dC, dI)) (ci := 4) (v := .int (nI (n - 1))) (C := RX6) (T := TX6) (N := 16) hx hb hts hiX6 hown hK hP 0 rfl rfl 4 (by decide) hf33 (fun _ h9 => h9) rfl dX6_undo_63 ?_
      have ec_r66_1_o_0 : (nI 0) = (nI (if n = 0 then 1 else 0)) := by first | rfl | (first | (simp [c_9, c_33, Nat.not_lt.mpr c_33] <;> rfl))
      have ec_r66_1_aS : fGet V S (96 * (n - 1)) 96 = if n = 0 then S else fGet V S (96 * (n - 1)) 96 := by first | rfl | (first | (simp [c_9, c_33, Nat.not_lt.mpr c_33] <;> rfl))
      have ew_r66_1 : ([(o, .inr (4, [.int (nI 0), .ref aS, .ref aA, .ref aV, .int (nI (n - 1)), .ref aB, .int ln, .int at_, .int wl, .ref aR, .int rm, .int ga, .int fi, .int se, .int ex, .long ha])), (aS, .inl (cI, 96, .inl (fGet V S (96 * (n - 1)) 96))), (aV, .inl (cI, 576, .inl V))] : va_W) = [(o, .inr (4, [.int (nI (if n = 0 then 1 else 0)), .ref aS, .ref aA, .ref aV, .int (nI (n - 1)), .ref aB, .int ln, .int at_, .int wl, .ref aR, .int rm, .int ga, .int fi, .int se, .int ex, .long ha])), (aS, .inl (cI, 96, .inl (if n = 0 then S else fGet V S (96 * (n - 1)) 96))), (aV, .inl (cI, 576, .inl V))] := ((congrArg (fun z_ => ([(o, .inr (4, [.int z_, .ref aS, .ref aA, .ref aV, .int (nI (n - 1)), .ref aB, .int ln, .int at_, .int wl, .ref aR, .int rm, .int ga, .int fi, .int se, .int ex, .long ha])), (aS, .inl (cI, 96, .inl (fGet V S (96 * (n - 1)) 96))), (aV, .inl (cI, 576, .inl V))] : va_W)) ec_r66_1_o_0).trans (congrArg (fun z_ => ([(o, .inr (4, [.int (nI (if n = 0 then 1 else 0)), .ref aS, .ref aA, .ref aV, .int (nI (n - 1)), .ref aB, .int ln, .int at_, .int wl, .ref aR, .int rm, .int ga, .int fi, .int se, .int ex, .long ha])), (aS, .inl (cI, 96, .inl z_)), (aV, .inl (cI, 576, .inl V))] : va_W)) ec_r66_1_aS))
      have hP9 := (w_cgP ew_r66_1 hP)
      have hD9 := (w_cgD ew_r66_1 hD)
      exact W.iret (v := (nI (n - 1))) hx hb hr (fun t ht hW => ⟨⟨(nI (n - 1)), (), rfl, rfl, by rw [ht]; exact hP9, va_K.moved hW.alike hK, hD9⟩, hS.F ht⟩) hS.2.2 dX6_undo_66
    · refine lv_aload_n hx hb dX6_undo_36 rfl (lv_at hl 0 rfl) ?_
      refine va_get (D := (dC, dI)) (ci := 4) (v := .ref aS) (C := RX6) (T := TX6) (N := 16) hx hb hts hiX6 hown hK hP 0 rfl rfl 1 (by decide) hf7 (fun _ h9 => h9) rfl dX6_undo_37 ?_
      refine lv_iload_n hx hb dX6_undo_40 rfl (lv_at hl 1 rfl) ?_
      refine lv_aload_n hx hb dX6_undo_41 rfl (lv_at hl 0 rfl) ?_
      refine va_get (D := (dC, dI)) (ci := 4) (v := .ref aV) (C := RX6) (T := TX6) (N := 16) hx hb hts hiX6 hown hK hP 0 rfl rfl 3 (by decide) hf16 (fun _ h9 => h9) rfl dX6_undo_42 ?_
      refine lv_bipush (v := (nI 96)) hx hb dX6_undo_45 (by decide) ?_
      refine lv_aload_n hx hb dX6_undo_47 rfl (lv_at hl 0 rfl) ?_
      refine va_get (D := (dC, dI)) (ci := 4) (v := .int (nI (n - 1))) (C := RX6) (T := TX6) (N := 16) hx hb hts hiX6 hown hK hP 0 rfl rfl 4 (by decide) hf33 (fun _ h9 => h9) rfl dX6_undo_48 ?_
      refine n_imul hx hb dX6_undo_51 ?_
      refine lv_iload_n hx hb dX6_undo_52 rfl (lv_at hl 1 rfl) ?_
      refine n_iadd hx hb dX6_undo_53 ?_
      refine n_iald hx hb hK hP 2 0 rfl rfl (show (96 * (n - 1)) + j < 576 from by omega) (by decide) dX6_undo_54 ?_
      refine n_iast hx hb hK hP hD hS 1 0 rfl rfl (show j < 96 from by omega) (by decide) dX6_undo_55 (fun H locs hP hD hS => ?_)
      replace hP : va_P (dC, dI) vwCl [(o, .inr (4, [.int (nI 0), .ref aS, .ref aA, .ref aV, .int (nI (n - 1)), .ref aB, .int ln, .int at_, .int wl, .ref aR, .int rm, .int ga, .int fi, .int se, .int ex, .long ha])), (aS, .inl (cI, 96, .inl (upd (fGet V S (96 * (n - 1)) j) j (V ((96 * (n - 1)) + j))))), (aV, .inl (cI, 576, .inl V))] H := hP
      replace hD : va_D A [(o, .inr (4, [.int (nI 0), .ref aS, .ref aA, .ref aV, .int (nI (n - 1)), .ref aB, .int ln, .int at_, .int wl, .ref aR, .int rm, .int ga, .int fi, .int se, .int ex, .long ha])), (aS, .inl (cI, 96, .inl (upd (fGet V S (96 * (n - 1)) j) j (V ((96 * (n - 1)) + j))))), (aV, .inl (cI, 576, .inl V))] := hD
      refine lv_iinc (v := (nI (j + 1))) (lv' := [(1, .int (nI (j + 1))), (0, .ref o)]) hx hb dX6_undo_56 hl (k := 1) rfl (n_inc _ 1) (by decide) rfl (fun ls hl => ?_)
      refine lv_goto (tgt := 30) hx hb dX6_undo_59 (by decide) ?_
      have ec_b30_2_aS : upd (fGet V S (96 * (n - 1)) j) j (V ((96 * (n - 1)) + j)) = fGet V S (96 * (n - 1)) (j + 1) := by rfl
      have ew_b30_2 : ([(o, .inr (4, [.int (nI 0), .ref aS, .ref aA, .ref aV, .int (nI (n - 1)), .ref aB, .int ln, .int at_, .int wl, .ref aR, .int rm, .int ga, .int fi, .int se, .int ex, .long ha])), (aS, .inl (cI, 96, .inl (upd (fGet V S (96 * (n - 1)) j) j (V ((96 * (n - 1)) + j))))), (aV, .inl (cI, 576, .inl V))] : va_W) = [(o, .inr (4, [.int (nI 0), .ref aS, .ref aA, .ref aV, .int (nI (n - 1)), .ref aB, .int ln, .int at_, .int wl, .ref aR, .int rm, .int ga, .int fi, .int se, .int ex, .long ha])), (aS, .inl (cI, 96, .inl (fGet V S (96 * (n - 1)) (j + 1)))), (aV, .inl (cI, 576, .inl V))] := (congrArg (fun z_ => ([(o, .inr (4, [.int (nI 0), .ref aS, .ref aA, .ref aV, .int (nI (n - 1)), .ref aB, .int ln, .int at_, .int wl, .ref aR, .int rm, .int ga, .int fi, .int se, .int ex, .long ha])), (aS, .inl (cI, 96, .inl z_)), (aV, .inl (cI, 576, .inl V))] : va_W)) ec_b30_2_aS)
      exact ih30 (j + 1) H locs ls ⟨by omega, (w_cgP ew_b30_2 hP), (w_cgD ew_b30_2 hD), hS, lv_sub hl [1, 0] rfl⟩ (by first | omega | (dsimp only; omega))
  · refine lv_aload_n hx hb dX6_undo_12 rfl (lv_at hl 0 rfl) ?_
    refine lv_iconst (v := (nI 1)) hx hb dX6_undo_13 (by decide) ?_
    have hPc := hP.sub (ws' := [(o, .inr (4, [.int (nI 0), .ref aS, .ref aA, .ref aV, .int (nI n), .ref aB, .int ln, .int at_, .int wl, .ref aR, .int rm, .int ga, .int fi, .int se, .int ex, .long ha]))]) [0] rfl
    have hDc := hD.sub (ws' := [(o, .inr (4, [.int (nI 0), .ref aS, .ref aA, .ref aV, .int (nI n), .ref aB, .int ln, .int at_, .int wl, .ref aR, .int rm, .int ga, .int fi, .int se, .int ex, .long ha]))]) [0] (by decide) rfl
    have hFc := va_free (wc := [(o, .inr (4, [.int (nI 0), .ref aS, .ref aA, .ref aV, .int (nI n), .ref aB, .int ln, .int at_, .int wl, .ref aR, .int rm, .int ga, .int fi, .int se, .int ex, .long ha]))]) hD hS hA [0] rfl
    refine va_calli (va_runV (As := [.int (nI 1)]) (rest := []) ⟨hx, hb, hml, hown, hts⟩ (kX6_fails l dC dI cI cV cW H.size o 0 aS aA aV (nI n) aB ln at_ wl aR rm ga fi se ex ha 1) (cwV 1 hts gX6_undo_X6_fails rfl rfl rfl hdX6_fails ⟨Nat.le_of_ble_eq_true rfl, Nat.le_of_ble_eq_true rfl⟩) (pW_V hK hP hPc hDc 0 4 rfl rfl rfl) rfl rfl hl.1 rfl (lv_room (Nat.le_of_ble_eq_true rfl)) dX6_undo_14 ⟨Nat.zero_le _, Nat.zero_le _⟩) hS (fun q _ h => hFc q h) hFc (fun r_14 u_ t_ H1 locs ht_ hvm_ hw_ hB_ hz_ hk_ hS => ?_)
    obtain ⟨hP1, -, hD1⟩ := hB_
    rw [ht_] at hP1
    obtain ⟨hP, hD⟩ := va_join (wr := [(aS, .inl (cI, 96, .inl S)), (aV, .inl (cI, 576, .inl V))]) (w1 := [(o, .inr (4, [.int 1, .ref aS, .ref aA, .ref aV, .int (nI n), .ref aB, .int ln, .int at_, .int wl, .ref aR, .int rm, .int ga, .int fi, .int se, .int ex, .long ha]))]) hP hD [0] [1, 2] rfl rfl (by decide) (by decide) hk_ hFc hP1 hD1
    clear hP1 hD1 hPc hDc hFc hk_ hz_ hvm_ ht_
    generalize H1 = H at hP hS ⊢
    replace hP : va_P (dC, dI) vwCl [(o, .inr (4, [.int 1, .ref aS, .ref aA, .ref aV, .int (nI n), .ref aB, .int ln, .int at_, .int wl, .ref aR, .int rm, .int ga, .int fi, .int se, .int ex, .long ha])), (aS, .inl (cI, 96, .inl S)), (aV, .inl (cI, 576, .inl V))] H := hP.sub [2, 0, 1] rfl
    replace hD : va_D A [(o, .inr (4, [.int 1, .ref aS, .ref aA, .ref aV, .int (nI n), .ref aB, .int ln, .int at_, .int wl, .ref aR, .int rm, .int ga, .int fi, .int se, .int ex, .long ha])), (aS, .inl (cI, 96, .inl S)), (aV, .inl (cI, 576, .inl V))] := hD.sub [2, 0, 1] (by decide) rfl
    refine W.widen (k := 0) (n := 0) (Nat.le_refl 0) (Nat.le_refl 0) ?_
    have hw_ : r_14 = (nI 0) := hw_
    subst hw_
    have ec_r17_3_o_0 : 1 = (nI (if n = 0 then 1 else 0)) := by first | rfl | (first | (simp [c_9] <;> rfl))
    have ec_r17_3_o_4 : (nI n) = (nI (n - 1)) := by first | rfl | (first | (simp [c_9] <;> rfl))
    have ec_r17_3_aS : S = if n = 0 then S else fGet V S (96 * (n - 1)) 96 := by first | rfl | (first | (simp [c_9] <;> rfl))
    have ew_r17_3 : ([(o, .inr (4, [.int 1, .ref aS, .ref aA, .ref aV, .int (nI n), .ref aB, .int ln, .int at_, .int wl, .ref aR, .int rm, .int ga, .int fi, .int se, .int ex, .long ha])), (aS, .inl (cI, 96, .inl S)), (aV, .inl (cI, 576, .inl V))] : va_W) = [(o, .inr (4, [.int (nI (if n = 0 then 1 else 0)), .ref aS, .ref aA, .ref aV, .int (nI (n - 1)), .ref aB, .int ln, .int at_, .int wl, .ref aR, .int rm, .int ga, .int fi, .int se, .int ex, .long ha])), (aS, .inl (cI, 96, .inl (if n = 0 then S else fGet V S (96 * (n - 1)) 96))), (aV, .inl (cI, 576, .inl V))] := (((congrArg (fun z_ => ([(o, .inr (4, [.int z_, .ref aS, .ref aA, .ref aV, .int (nI n), .ref aB, .int ln, .int at_, .int wl, .ref aR, .int rm, .int ga, .int fi, .int se, .int ex, .long ha])), (aS, .inl (cI, 96, .inl S)), (aV, .inl (cI, 576, .inl V))] : va_W)) ec_r17_3_o_0).trans (congrArg (fun z_ => ([(o, .inr (4, [.int (nI (if n = 0 then 1 else 0)), .ref aS, .ref aA, .ref aV, .int z_, .ref aB, .int ln, .int at_, .int wl, .ref aR, .int rm, .int ga, .int fi, .int se, .int ex, .long ha])), (aS, .inl (cI, 96, .inl S)), (aV, .inl (cI, 576, .inl V))] : va_W)) ec_r17_3_o_4)).trans (congrArg (fun z_ => ([(o, .inr (4, [.int (nI (if n = 0 then 1 else 0)), .ref aS, .ref aA, .ref aV, .int (nI (n - 1)), .ref aB, .int ln, .int at_, .int wl, .ref aR, .int rm, .int ga, .int fi, .int se, .int ex, .long ha])), (aS, .inl (cI, 96, .inl z_)), (aV, .inl (cI, 576, .inl V))] : va_W)) ec_r17_3_aS))
    have hP9 := (w_cgP ew_r17_3 hP)
    have hD9 := (w_cgD ew_r17_3 hD)
    exact W.iret (v := (nI 0)) hx hb hr (fun t ht hW => ⟨⟨(nI 0), (), rfl, (show (nI 0) = (nI (n - 1)) from by first | rfl | (first | (simp [c_9] <;> rfl))), by rw [ht]; exact hP9, va_K.moved hW.alike hK, hD9⟩, hS.F ht⟩) hS.2.2 dX6_undo_17
set_option maxHeartbeats 4000000 in
set_option maxRecDepth 100000 in
theorem kX6_clearText (l : Launch) (dC : Nat → ClassId) (dI : Nat → Nat → Nat) (cI cV cW : ClassId) (sz : Nat) (o : Nat) (th : Int32) (aS : Nat) (aA : Nat) (aV : Nat) (sm : Int32) (aB : Nat) (ln : Int32) (at_ : Int32) (wl : Int32) (aR : Nat) (rm : Int32) (ga : Int32) (fi : Int32) (se : Int32) (ex : Int32) (ha : Int64)  : Met l yX6_clearText wsX6_clearText ({ frames := 0, cells := 0, slots := 0, locals := 0 }) (pW (dC, dI) (tyS cI cV cW) sz [.ref o] [(o, .inr (4, [.int th, .ref aS, .ref aA, .ref aV, .int sm, .ref aB, .int ln, .int at_, .int wl, .ref aR, .int rm, .int ga, .int fi, .int se, .int ex, .long ha]))]) (va_Qi (fun (r_ : Int32) (_ : Unit) => r_ = ln) (fun (_ : Unit) t => qB (dC, dI) (tyS cI cV cW) (va_A [(o, .inr (4, [.int th, .ref aS, .ref aA, .ref aV, .int sm, .ref aB, .int ln, .int at_, .int wl, .ref aR, .int rm, .int ga, .int fi, .int se, .int ex, .long ha]))] sz) [(o, .inr (4, [.int (nI 0), .ref aS, .ref aA, .ref aV, .int sm, .ref aB, .int (nI 0), .int at_, .int wl, .ref aR, .int rm, .int ga, .int fi, .int se, .int ex, .long ha]))] t) (va_A [(o, .inr (4, [.int th, .ref aS, .ref aA, .ref aV, .int sm, .ref aB, .int ln, .int at_, .int wl, .ref aR, .int rm, .int ga, .int fi, .int se, .int ex, .long ha]))] sz)) 0 0 (va_A [(o, .inr (4, [.int th, .ref aS, .ref aA, .ref aV, .int sm, .ref aB, .int ln, .int at_, .int wl, .ref aR, .int rm, .int ga, .int fi, .int se, .int ex, .long ha]))] sz) := by
  refine Met.ofW (cc := cX6_clearText) (maxL := 2) (ret := (some .int)) (by decide) rfl ?_
  intro p e s m args below meth c s₁ B hml hv
  obtain ⟨rfl, hsz, hP, hK, hD0⟩ := hv
  have hx := B.exec
  have hb := B.bytes
  have hr := B.returns
  have hts := atoms_spec (ws := wsX6_clearText) B.pre
  have hown : s.vm.findClass RX6 = some m.cls := findClass_of_methodNamed B.named
  have hlocks := B.notSynchronized
  subst hsz
  have hD := hD0.self (sz := s.heap.size)
  generalize hAe : va_A [(o, .inr (4, [.int th, .ref aS, .ref aA, .ref aV, .int sm, .ref aB, .int ln, .int at_, .int wl, .ref aR, .int rm, .int ga, .int fi, .int se, .int ex, .long ha]))] s.heap.size = A at hD ⊢
  have hA : ∀ q : Nat, s.heap.size ≤ q → A q := fun q h => by rw [← hAe]; exact Or.inr h
  have hS : va_S A s.heap s.heap [] := va_S.rf
  refine w_gen hP hS (fun H locs hP hS => ?_)
  have hf25 := hts (.fieldLink RX6 25 "VaultShelvesModel" "thrown" "I") (by decide +kernel)
  have hf135 := hts (.fieldLink RX6 135 "VaultShelvesModel" "length" "I") (by decide +kernel)
  have hiX6 : ∀ w ∈ u_ws RX6 TX6 16, w ∈ wsX6_clearText := by decide +kernel
  have hl := lv_entry ([.ref o]) (n := 2) (Nat.le_of_ble_eq_true rfl)
  rw [lg_entry_eq]
  generalize (lg_sl ([.ref o]) ++ List.replicate (2 - (lg_sl ([.ref o])).length) Slot.unset).toArray = ls at hl ⊢
  replace hl : lv_has ls 2 [(0, .ref o)] := hl
  refine lv_aload_n hx hb dX6_clearText_0 rfl (lv_at hl 0 rfl) ?_
  refine lv_iconst (v := (nI 0)) hx hb dX6_clearText_1 (by decide) ?_
  refine va_put (D := (dC, dI)) (ci := 4) (v := .int (nI 0)) (ty := .int) (C := RX6) (T := TX6) (N := 16) hx hb hts hiX6 tyX6 tyX6_ok nmX6 hown hK hP hD hS 0 rfl rfl 0 (by decide) hf25 (fun _ h9 => h9) rfl (by decide +kernel) rfl rfl (Nat.le_of_ble_eq_true rfl) dX6_clearText_2 (fun H locs hP hD hS => ?_)
  replace hP : va_P (dC, dI) vwCl [(o, .inr (4, [.int (nI 0), .ref aS, .ref aA, .ref aV, .int sm, .ref aB, .int ln, .int at_, .int wl, .ref aR, .int rm, .int ga, .int fi, .int se, .int ex, .long ha]))] H := hP
  replace hD : va_D A [(o, .inr (4, [.int (nI 0), .ref aS, .ref aA, .ref aV, .int sm, .ref aB, .int ln, .int at_, .int wl, .ref aR, .int rm, .int ga, .int fi, .int se, .int ex, .long ha]))] := hD
  refine lv_aload_n hx hb dX6_clearText_5 rfl (lv_at hl 0 rfl) ?_
  refine va_get (D := (dC, dI)) (ci := 4) (v := .int ln) (C := RX6) (T := TX6) (N := 16) hx hb hts hiX6 hown hK hP 0 rfl rfl 6 (by decide) hf135 (fun _ h9 => h9) rfl dX6_clearText_6 ?_
  refine lv_istore_n (lv' := [(1, .int ln), (0, .ref o)]) hx hb dX6_clearText_9 rfl hl (by decide) rfl (fun ls hl => ?_)
  refine lv_aload_n hx hb dX6_clearText_10 rfl (lv_at hl 1 rfl) ?_
  refine lv_iconst (v := (nI 0)) hx hb dX6_clearText_11 (by decide) ?_
  refine va_put (D := (dC, dI)) (ci := 4) (v := .int (nI 0)) (ty := .int) (C := RX6) (T := TX6) (N := 16) hx hb hts hiX6 tyX6 tyX6_ok nmX6 hown hK hP hD hS 0 rfl rfl 6 (by decide) hf135 (fun _ h9 => h9) rfl (by decide +kernel) rfl rfl (Nat.le_of_ble_eq_true rfl) dX6_clearText_12 (fun H locs hP hD hS => ?_)
  replace hP : va_P (dC, dI) vwCl [(o, .inr (4, [.int (nI 0), .ref aS, .ref aA, .ref aV, .int sm, .ref aB, .int (nI 0), .int at_, .int wl, .ref aR, .int rm, .int ga, .int fi, .int se, .int ex, .long ha]))] H := hP
  replace hD : va_D A [(o, .inr (4, [.int (nI 0), .ref aS, .ref aA, .ref aV, .int sm, .ref aB, .int (nI 0), .int at_, .int wl, .ref aR, .int rm, .int ga, .int fi, .int se, .int ex, .long ha]))] := hD
  refine lv_iload_n hx hb dX6_clearText_15 rfl (lv_at hl 0 rfl) ?_
  have hP9 := hP
  have hD9 := hD
  exact W.iret (v := ln) hx hb hr (fun t ht hW => ⟨⟨ln, (), rfl, rfl, by rw [ht]; exact hP9, va_K.moved hW.alike hK, hD9⟩, hS.F ht⟩) hS.2.2 dX6_clearText_16
set_option maxHeartbeats 4000000 in
set_option maxRecDepth 100000 in
theorem kX6_append (l : Launch) (dC : Nat → ClassId) (dI : Nat → Nat → Nat) (cI cV cW : ClassId) (sz : Nat) (o : Nat) (th : Int32) (aS : Nat) (aA : Nat) (aV : Nat) (sm : Int32) (aB : Nat) (at_ : Int32) (wl : Int32) (aR : Nat) (rm : Int32) (ga : Int32) (fi : Int32) (se : Int32) (ex : Int32) (ha : Int64) (B0 : Nat → Int32) (tn : Nat) (x : Int32) (htn : tn ≤ 60) : Met l yX6_append wsX6_append ({ frames := 1, cells := 0, slots := 0, locals := 22 }) (pW (dC, dI) (tyS cI cV cW) sz [.ref o, .int x] [(o, .inr (4, [.int th, .ref aS, .ref aA, .ref aV, .int sm, .ref aB, .int (nI tn), .int at_, .int wl, .ref aR, .int rm, .int ga, .int fi, .int se, .int ex, .long ha])), (aB, .inl (cI, 60, .inl B0))]) (va_Qi (fun (r_ : Int32) (_ : Unit) => r_ = (nI (if cdApp tn x = 0 then tn + 1 else 0))) (fun (_ : Unit) t => qB (dC, dI) (tyS cI cV cW) (va_A [(o, .inr (4, [.int th, .ref aS, .ref aA, .ref aV, .int sm, .ref aB, .int (nI tn), .int at_, .int wl, .ref aR, .int rm, .int ga, .int fi, .int se, .int ex, .long ha])), (aB, .inl (cI, 60, .inl B0))] sz) [(o, .inr (4, [.int (nI (cdApp tn x)), .ref aS, .ref aA, .ref aV, .int sm, .ref aB, .int (nI (if cdApp tn x = 0 then tn + 1 else tn)), .int at_, .int wl, .ref aR, .int rm, .int ga, .int fi, .int se, .int ex, .long ha])), (aB, .inl (cI, 60, .inl (if cdApp tn x = 0 then upd B0 tn x else B0)))] t) (va_A [(o, .inr (4, [.int th, .ref aS, .ref aA, .ref aV, .int sm, .ref aB, .int (nI tn), .int at_, .int wl, .ref aR, .int rm, .int ga, .int fi, .int se, .int ex, .long ha])), (aB, .inl (cI, 60, .inl B0))] sz)) 0 0 (va_A [(o, .inr (4, [.int th, .ref aS, .ref aA, .ref aV, .int sm, .ref aB, .int (nI tn), .int at_, .int wl, .ref aR, .int rm, .int ga, .int fi, .int se, .int ex, .long ha])), (aB, .inl (cI, 60, .inl B0))] sz) := by
  refine Met.ofW (cc := cX6_append) (maxL := 2) (ret := (some .int)) (by decide) rfl ?_
  intro p e s m args below meth c s₁ B hml hv
  obtain ⟨rfl, hsz, hP, hK, hD0⟩ := hv
  have hx := B.exec
  have hb := B.bytes
  have hr := B.returns
  have hts := atoms_spec (ws := wsX6_append) B.pre
  have hown : s.vm.findClass RX6 = some m.cls := findClass_of_methodNamed B.named
  have hlocks := B.notSynchronized
  subst hsz
  have hD := hD0.self (sz := s.heap.size)
  generalize hAe : va_A [(o, .inr (4, [.int th, .ref aS, .ref aA, .ref aV, .int sm, .ref aB, .int (nI tn), .int at_, .int wl, .ref aR, .int rm, .int ga, .int fi, .int se, .int ex, .long ha])), (aB, .inl (cI, 60, .inl B0))] s.heap.size = A at hD ⊢
  have hA : ∀ q : Nat, s.heap.size ≤ q → A q := fun q h => by rw [← hAe]; exact Or.inr h
  have hS : va_S A s.heap s.heap [] := va_S.rf
  refine w_gen hP hS (fun H locs hP hS => ?_)
  have hf25 := hts (.fieldLink RX6 25 "VaultShelvesModel" "thrown" "I") (by decide +kernel)
  have hf135 := hts (.fieldLink RX6 135 "VaultShelvesModel" "length" "I") (by decide +kernel)
  have hf19 := hts (.fieldLink RX6 19 "VaultShelvesModel" "buffer" "[I") (by decide +kernel)
  have hiX6 : ∀ w ∈ u_ws RX6 TX6 16, w ∈ wsX6_append := by decide +kernel
  have hl := lv_entry ([.ref o, .int x]) (n := 2) (Nat.le_of_ble_eq_true rfl)
  rw [lg_entry_eq]
  generalize (lg_sl ([.ref o, .int x]) ++ List.replicate (2 - (lg_sl ([.ref o, .int x])).length) Slot.unset).toArray = ls at hl ⊢
  replace hl : lv_has ls 2 [(0, .ref o), (1, .int x)] := hl
  refine lv_aload_n hx hb dX6_append_0 rfl (lv_at hl 0 rfl) ?_
  refine lv_iconst (v := (nI 0)) hx hb dX6_append_1 (by decide) ?_
  refine va_put (D := (dC, dI)) (ci := 4) (v := .int (nI 0)) (ty := .int) (C := RX6) (T := TX6) (N := 16) hx hb hts hiX6 tyX6 tyX6_ok nmX6 hown hK hP hD hS 0 rfl rfl 0 (by decide) hf25 (fun _ h9 => h9) rfl (by decide +kernel) rfl rfl (Nat.le_of_ble_eq_true rfl) dX6_append_2 (fun H locs hP hD hS => ?_)
  replace hP : va_P (dC, dI) vwCl [(o, .inr (4, [.int (nI 0), .ref aS, .ref aA, .ref aV, .int sm, .ref aB, .int (nI tn), .int at_, .int wl, .ref aR, .int rm, .int ga, .int fi, .int se, .int ex, .long ha])), (aB, .inl (cI, 60, .inl B0))] H := hP
  replace hD : va_D A [(o, .inr (4, [.int (nI 0), .ref aS, .ref aA, .ref aV, .int sm, .ref aB, .int (nI tn), .int at_, .int wl, .ref aR, .int rm, .int ga, .int fi, .int se, .int ex, .long ha])), (aB, .inl (cI, 60, .inl B0))] := hD
  refine lv_iload_n hx hb dX6_append_5 rfl (lv_at hl 1 rfl) ?_
  refine lv_bipush (v := (nI 33)) hx hb dX6_append_6 (by decide) ?_
  refine lv_bipush (v := (nI 126)) hx hb dX6_append_8 (by decide) ?_
  refine vp_callSi (W.runS (As := [.int x, .int (nI 33), .int (nI 126)]) (rest := []) ⟨hx, hb, hml, hown, hts⟩ (kX6_in l dC dI cI cV cW x 33 126) (va_cwS 3 hts gX6_append_X6_in rfl rfl rfl hdX6_in ⟨Nat.le_of_ble_eq_true rfl, Nat.le_of_ble_eq_true rfl⟩) (pR_S hK hP [] rfl) rfl rfl hl.1 rfl (lv_room (Nat.le_of_ble_eq_true rfl)) dX6_append_10 ⟨Nat.zero_le _, Nat.zero_le _⟩) (fun r_10 hr_ => ?_)
  subst hr_
  refine b_if_ne (tgt := 22) hx hb dX6_append_13 (by decide) (fun c_13 => ?_) (fun c_13 => ?_)
  · refine lv_aload_n hx hb dX6_append_22 rfl (lv_at hl 0 rfl) ?_
    refine va_get (D := (dC, dI)) (ci := 4) (v := .int (nI tn)) (C := RX6) (T := TX6) (N := 16) hx hb hts hiX6 hown hK hP 0 rfl rfl 6 (by decide) hf135 (fun _ h9 => h9) rfl dX6_append_23 ?_
    refine lv_bipush (v := (nI 60)) hx hb dX6_append_26 (by decide) ?_
    refine n_icmp_ne (tgt := 37) hx hb dX6_append_28 (by decide) (by omega) (by omega) (fun c_28 => ?_) (fun c_28 => ?_)
    · refine lv_aload_n hx hb dX6_append_37 rfl (lv_at hl 0 rfl) ?_
      refine va_get (D := (dC, dI)) (ci := 4) (v := .ref aB) (C := RX6) (T := TX6) (N := 16) hx hb hts hiX6 hown hK hP 0 rfl rfl 5 (by decide) hf19 (fun _ h9 => h9) rfl dX6_append_38 ?_
      refine lv_aload_n hx hb dX6_append_41 rfl (lv_at hl 0 rfl) ?_
      refine va_get (D := (dC, dI)) (ci := 4) (v := .int (nI tn)) (C := RX6) (T := TX6) (N := 16) hx hb hts hiX6 hown hK hP 0 rfl rfl 6 (by decide) hf135 (fun _ h9 => h9) rfl dX6_append_42 ?_
      refine lv_iload_n hx hb dX6_append_45 rfl (lv_at hl 1 rfl) ?_
      refine n_iast hx hb hK hP hD hS 1 0 rfl rfl (show tn < 60 from by omega) (by decide) dX6_append_46 (fun H locs hP hD hS => ?_)
      replace hP : va_P (dC, dI) vwCl [(o, .inr (4, [.int (nI 0), .ref aS, .ref aA, .ref aV, .int sm, .ref aB, .int (nI tn), .int at_, .int wl, .ref aR, .int rm, .int ga, .int fi, .int se, .int ex, .long ha])), (aB, .inl (cI, 60, .inl (upd B0 tn x)))] H := hP
      replace hD : va_D A [(o, .inr (4, [.int (nI 0), .ref aS, .ref aA, .ref aV, .int sm, .ref aB, .int (nI tn), .int at_, .int wl, .ref aR, .int rm, .int ga, .int fi, .int se, .int ex, .long ha])), (aB, .inl (cI, 60, .inl (upd B0 tn x)))] := hD
      refine lv_aload_n hx hb dX6_append_47 rfl (lv_at hl 0 rfl) ?_
      refine lv_dup hx hb dX6_append_48 rfl ?_
      refine va_get (D := (dC, dI)) (ci := 4) (v := .int (nI tn)) (C := RX6) (T := TX6) (N := 16) hx hb hts hiX6 hown hK hP 0 rfl rfl 6 (by decide) hf135 (fun _ h9 => h9) rfl dX6_append_49 ?_
      refine lv_iconst (v := (nI 1)) hx hb dX6_append_52 (by decide) ?_
      refine n_iadd hx hb dX6_append_53 ?_
      refine va_put (D := (dC, dI)) (ci := 4) (v := .int (nI (tn + 1))) (ty := .int) (C := RX6) (T := TX6) (N := 16) hx hb hts hiX6 tyX6 tyX6_ok nmX6 hown hK hP hD hS 0 rfl rfl 6 (by decide) hf135 (fun _ h9 => h9) rfl (by decide +kernel) rfl rfl (Nat.le_of_ble_eq_true rfl) dX6_append_54 (fun H locs hP hD hS => ?_)
      replace hP : va_P (dC, dI) vwCl [(o, .inr (4, [.int (nI 0), .ref aS, .ref aA, .ref aV, .int sm, .ref aB, .int (nI (tn + 1)), .int at_, .int wl, .ref aR, .int rm, .int ga, .int fi, .int se, .int ex, .long ha])), (aB, .inl (cI, 60, .inl (upd B0 tn x)))] H := hP
      replace hD : va_D A [(o, .inr (4, [.int (nI 0), .ref aS, .ref aA, .ref aV, .int sm, .ref aB, .int (nI (tn + 1)), .int at_, .int wl, .ref aR, .int rm, .int ga, .int fi, .int se, .int ex, .long ha])), (aB, .inl (cI, 60, .inl (upd B0 tn x)))] := hD
      refine lv_aload_n hx hb dX6_append_57 rfl (lv_at hl 0 rfl) ?_
      refine va_get (D := (dC, dI)) (ci := 4) (v := .int (nI (tn + 1))) (C := RX6) (T := TX6) (N := 16) hx hb hts hiX6 hown hK hP 0 rfl rfl 6 (by decide) hf135 (fun _ h9 => h9) rfl dX6_append_58 ?_
      have ec_r61_1_o_0 : (nI 0) = (nI (cdApp tn x)) := by first | rfl | (first | (simp [cdApp, c_13, c_28] <;> rfl))
      have ec_r61_1_o_6 : (nI (tn + 1)) = (nI (if cdApp tn x = 0 then tn + 1 else tn)) := by first | rfl | (first | (simp [cdApp, c_13, c_28] <;> rfl))
      have ec_r61_1_aB : upd B0 tn x = if cdApp tn x = 0 then upd B0 tn x else B0 := by first | rfl | (first | (simp [cdApp, c_13, c_28] <;> rfl))
      have ew_r61_1 : ([(o, .inr (4, [.int (nI 0), .ref aS, .ref aA, .ref aV, .int sm, .ref aB, .int (nI (tn + 1)), .int at_, .int wl, .ref aR, .int rm, .int ga, .int fi, .int se, .int ex, .long ha])), (aB, .inl (cI, 60, .inl (upd B0 tn x)))] : va_W) = [(o, .inr (4, [.int (nI (cdApp tn x)), .ref aS, .ref aA, .ref aV, .int sm, .ref aB, .int (nI (if cdApp tn x = 0 then tn + 1 else tn)), .int at_, .int wl, .ref aR, .int rm, .int ga, .int fi, .int se, .int ex, .long ha])), (aB, .inl (cI, 60, .inl (if cdApp tn x = 0 then upd B0 tn x else B0)))] := (((congrArg (fun z_ => ([(o, .inr (4, [.int z_, .ref aS, .ref aA, .ref aV, .int sm, .ref aB, .int (nI (tn + 1)), .int at_, .int wl, .ref aR, .int rm, .int ga, .int fi, .int se, .int ex, .long ha])), (aB, .inl (cI, 60, .inl (upd B0 tn x)))] : va_W)) ec_r61_1_o_0).trans (congrArg (fun z_ => ([(o, .inr (4, [.int (nI (cdApp tn x)), .ref aS, .ref aA, .ref aV, .int sm, .ref aB, .int z_, .int at_, .int wl, .ref aR, .int rm, .int ga, .int fi, .int se, .int ex, .long ha])), (aB, .inl (cI, 60, .inl (upd B0 tn x)))] : va_W)) ec_r61_1_o_6)).trans (congrArg (fun z_ => ([(o, .inr (4, [.int (nI (cdApp tn x)), .ref aS, .ref aA, .ref aV, .int sm, .ref aB, .int (nI (if cdApp tn x = 0 then tn + 1 else tn)), .int at_, .int wl, .ref aR, .int rm, .int ga, .int fi, .int se, .int ex, .long ha])), (aB, .inl (cI, 60, .inl z_))] : va_W)) ec_r61_1_aB))
      have hP9 := (w_cgP ew_r61_1 hP)
      have hD9 := (w_cgD ew_r61_1 hD)
      exact W.iret (v := (nI (tn + 1))) hx hb hr (fun t ht hW => ⟨⟨(nI (tn + 1)), (), rfl, (show (nI (tn + 1)) = (nI (if cdApp tn x = 0 then tn + 1 else 0)) from by first | rfl | (first | (simp [cdApp, c_13, c_28] <;> rfl))), by rw [ht]; exact hP9, va_K.moved hW.alike hK, hD9⟩, hS.F ht⟩) hS.2.2 dX6_append_61
    · refine lv_aload_n hx hb dX6_append_31 rfl (lv_at hl 0 rfl) ?_
      refine lv_iconst (v := (nI 2)) hx hb dX6_append_32 (by decide) ?_
      have hPc := hP.sub (ws' := [(o, .inr (4, [.int (nI 0), .ref aS, .ref aA, .ref aV, .int sm, .ref aB, .int (nI tn), .int at_, .int wl, .ref aR, .int rm, .int ga, .int fi, .int se, .int ex, .long ha]))]) [0] rfl
      have hDc := hD.sub (ws' := [(o, .inr (4, [.int (nI 0), .ref aS, .ref aA, .ref aV, .int sm, .ref aB, .int (nI tn), .int at_, .int wl, .ref aR, .int rm, .int ga, .int fi, .int se, .int ex, .long ha]))]) [0] (by decide) rfl
      have hFc := va_free (wc := [(o, .inr (4, [.int (nI 0), .ref aS, .ref aA, .ref aV, .int sm, .ref aB, .int (nI tn), .int at_, .int wl, .ref aR, .int rm, .int ga, .int fi, .int se, .int ex, .long ha]))]) hD hS hA [0] rfl
      refine va_calli (va_runV (As := [.int (nI 2)]) (rest := []) ⟨hx, hb, hml, hown, hts⟩ (kX6_fails l dC dI cI cV cW H.size o 0 aS aA aV sm aB (nI tn) at_ wl aR rm ga fi se ex ha 2) (cwV 1 hts gX6_append_X6_fails rfl rfl rfl hdX6_fails ⟨Nat.le_of_ble_eq_true rfl, Nat.le_of_ble_eq_true rfl⟩) (pW_V hK hP hPc hDc 0 4 rfl rfl rfl) rfl rfl hl.1 rfl (lv_room (Nat.le_of_ble_eq_true rfl)) dX6_append_33 ⟨Nat.zero_le _, Nat.zero_le _⟩) hS (fun q _ h => hFc q h) hFc (fun r_33 u_ t_ H1 locs ht_ hvm_ hw_ hB_ hz_ hk_ hS => ?_)
      obtain ⟨hP1, -, hD1⟩ := hB_
      rw [ht_] at hP1
      obtain ⟨hP, hD⟩ := va_join (wr := [(aB, .inl (cI, 60, .inl B0))]) (w1 := [(o, .inr (4, [.int 2, .ref aS, .ref aA, .ref aV, .int sm, .ref aB, .int (nI tn), .int at_, .int wl, .ref aR, .int rm, .int ga, .int fi, .int se, .int ex, .long ha]))]) hP hD [0] [1] rfl rfl (by decide) (by decide) hk_ hFc hP1 hD1
      clear hP1 hD1 hPc hDc hFc hk_ hz_ hvm_ ht_
      generalize H1 = H at hP hS ⊢
      replace hP : va_P (dC, dI) vwCl [(o, .inr (4, [.int 2, .ref aS, .ref aA, .ref aV, .int sm, .ref aB, .int (nI tn), .int at_, .int wl, .ref aR, .int rm, .int ga, .int fi, .int se, .int ex, .long ha])), (aB, .inl (cI, 60, .inl B0))] H := hP.sub [1, 0] rfl
      replace hD : va_D A [(o, .inr (4, [.int 2, .ref aS, .ref aA, .ref aV, .int sm, .ref aB, .int (nI tn), .int at_, .int wl, .ref aR, .int rm, .int ga, .int fi, .int se, .int ex, .long ha])), (aB, .inl (cI, 60, .inl B0))] := hD.sub [1, 0] (by decide) rfl
      refine W.widen (k := 0) (n := 0) (Nat.le_refl 0) (Nat.le_refl 0) ?_
      have hw_ : r_33 = (nI 0) := hw_
      subst hw_
      have ec_r36_2_o_0 : 2 = (nI (cdApp tn x)) := by first | rfl | (first | (simp [cdApp, c_13, c_28] <;> rfl))
      have ec_r36_2_o_6 : (nI tn) = (nI (if cdApp tn x = 0 then tn + 1 else tn)) := by first | rfl | (first | (simp [cdApp, c_13, c_28] <;> rfl))
      have ec_r36_2_aB : B0 = if cdApp tn x = 0 then upd B0 tn x else B0 := by first | rfl | (first | (simp [cdApp, c_13, c_28] <;> rfl))
      have ew_r36_2 : ([(o, .inr (4, [.int 2, .ref aS, .ref aA, .ref aV, .int sm, .ref aB, .int (nI tn), .int at_, .int wl, .ref aR, .int rm, .int ga, .int fi, .int se, .int ex, .long ha])), (aB, .inl (cI, 60, .inl B0))] : va_W) = [(o, .inr (4, [.int (nI (cdApp tn x)), .ref aS, .ref aA, .ref aV, .int sm, .ref aB, .int (nI (if cdApp tn x = 0 then tn + 1 else tn)), .int at_, .int wl, .ref aR, .int rm, .int ga, .int fi, .int se, .int ex, .long ha])), (aB, .inl (cI, 60, .inl (if cdApp tn x = 0 then upd B0 tn x else B0)))] := (((congrArg (fun z_ => ([(o, .inr (4, [.int z_, .ref aS, .ref aA, .ref aV, .int sm, .ref aB, .int (nI tn), .int at_, .int wl, .ref aR, .int rm, .int ga, .int fi, .int se, .int ex, .long ha])), (aB, .inl (cI, 60, .inl B0))] : va_W)) ec_r36_2_o_0).trans (congrArg (fun z_ => ([(o, .inr (4, [.int (nI (cdApp tn x)), .ref aS, .ref aA, .ref aV, .int sm, .ref aB, .int z_, .int at_, .int wl, .ref aR, .int rm, .int ga, .int fi, .int se, .int ex, .long ha])), (aB, .inl (cI, 60, .inl B0))] : va_W)) ec_r36_2_o_6)).trans (congrArg (fun z_ => ([(o, .inr (4, [.int (nI (cdApp tn x)), .ref aS, .ref aA, .ref aV, .int sm, .ref aB, .int (nI (if cdApp tn x = 0 then tn + 1 else tn)), .int at_, .int wl, .ref aR, .int rm, .int ga, .int fi, .int se, .int ex, .long ha])), (aB, .inl (cI, 60, .inl z_))] : va_W)) ec_r36_2_aB))
      have hP9 := (w_cgP ew_r36_2 hP)
      have hD9 := (w_cgD ew_r36_2 hD)
      exact W.iret (v := (nI 0)) hx hb hr (fun t ht hW => ⟨⟨(nI 0), (), rfl, (show (nI 0) = (nI (if cdApp tn x = 0 then tn + 1 else 0)) from by first | rfl | (first | (simp [cdApp, c_13, c_28] <;> rfl))), by rw [ht]; exact hP9, va_K.moved hW.alike hK, hD9⟩, hS.F ht⟩) hS.2.2 dX6_append_36
  · refine lv_aload_n hx hb dX6_append_16 rfl (lv_at hl 0 rfl) ?_
    refine lv_iconst (v := (nI 1)) hx hb dX6_append_17 (by decide) ?_
    have hPc := hP.sub (ws' := [(o, .inr (4, [.int (nI 0), .ref aS, .ref aA, .ref aV, .int sm, .ref aB, .int (nI tn), .int at_, .int wl, .ref aR, .int rm, .int ga, .int fi, .int se, .int ex, .long ha]))]) [0] rfl
    have hDc := hD.sub (ws' := [(o, .inr (4, [.int (nI 0), .ref aS, .ref aA, .ref aV, .int sm, .ref aB, .int (nI tn), .int at_, .int wl, .ref aR, .int rm, .int ga, .int fi, .int se, .int ex, .long ha]))]) [0] (by decide) rfl
    have hFc := va_free (wc := [(o, .inr (4, [.int (nI 0), .ref aS, .ref aA, .ref aV, .int sm, .ref aB, .int (nI tn), .int at_, .int wl, .ref aR, .int rm, .int ga, .int fi, .int se, .int ex, .long ha]))]) hD hS hA [0] rfl
    refine va_calli (va_runV (As := [.int (nI 1)]) (rest := []) ⟨hx, hb, hml, hown, hts⟩ (kX6_fails l dC dI cI cV cW H.size o 0 aS aA aV sm aB (nI tn) at_ wl aR rm ga fi se ex ha 1) (cwV 1 hts gX6_append_X6_fails rfl rfl rfl hdX6_fails ⟨Nat.le_of_ble_eq_true rfl, Nat.le_of_ble_eq_true rfl⟩) (pW_V hK hP hPc hDc 0 4 rfl rfl rfl) rfl rfl hl.1 rfl (lv_room (Nat.le_of_ble_eq_true rfl)) dX6_append_18 ⟨Nat.zero_le _, Nat.zero_le _⟩) hS (fun q _ h => hFc q h) hFc (fun r_18 u_ t_ H1 locs ht_ hvm_ hw_ hB_ hz_ hk_ hS => ?_)
    obtain ⟨hP1, -, hD1⟩ := hB_
    rw [ht_] at hP1
    obtain ⟨hP, hD⟩ := va_join (wr := [(aB, .inl (cI, 60, .inl B0))]) (w1 := [(o, .inr (4, [.int 1, .ref aS, .ref aA, .ref aV, .int sm, .ref aB, .int (nI tn), .int at_, .int wl, .ref aR, .int rm, .int ga, .int fi, .int se, .int ex, .long ha]))]) hP hD [0] [1] rfl rfl (by decide) (by decide) hk_ hFc hP1 hD1
    clear hP1 hD1 hPc hDc hFc hk_ hz_ hvm_ ht_
    generalize H1 = H at hP hS ⊢
    replace hP : va_P (dC, dI) vwCl [(o, .inr (4, [.int 1, .ref aS, .ref aA, .ref aV, .int sm, .ref aB, .int (nI tn), .int at_, .int wl, .ref aR, .int rm, .int ga, .int fi, .int se, .int ex, .long ha])), (aB, .inl (cI, 60, .inl B0))] H := hP.sub [1, 0] rfl
    replace hD : va_D A [(o, .inr (4, [.int 1, .ref aS, .ref aA, .ref aV, .int sm, .ref aB, .int (nI tn), .int at_, .int wl, .ref aR, .int rm, .int ga, .int fi, .int se, .int ex, .long ha])), (aB, .inl (cI, 60, .inl B0))] := hD.sub [1, 0] (by decide) rfl
    refine W.widen (k := 0) (n := 0) (Nat.le_refl 0) (Nat.le_refl 0) ?_
    have hw_ : r_18 = (nI 0) := hw_
    subst hw_
    have ec_r21_3_o_0 : 1 = (nI (cdApp tn x)) := by first | rfl | (first | (simp [cdApp, c_13] <;> rfl))
    have ec_r21_3_o_6 : (nI tn) = (nI (if cdApp tn x = 0 then tn + 1 else tn)) := by first | rfl | (first | (simp [cdApp, c_13] <;> rfl))
    have ec_r21_3_aB : B0 = if cdApp tn x = 0 then upd B0 tn x else B0 := by first | rfl | (first | (simp [cdApp, c_13] <;> rfl))
    have ew_r21_3 : ([(o, .inr (4, [.int 1, .ref aS, .ref aA, .ref aV, .int sm, .ref aB, .int (nI tn), .int at_, .int wl, .ref aR, .int rm, .int ga, .int fi, .int se, .int ex, .long ha])), (aB, .inl (cI, 60, .inl B0))] : va_W) = [(o, .inr (4, [.int (nI (cdApp tn x)), .ref aS, .ref aA, .ref aV, .int sm, .ref aB, .int (nI (if cdApp tn x = 0 then tn + 1 else tn)), .int at_, .int wl, .ref aR, .int rm, .int ga, .int fi, .int se, .int ex, .long ha])), (aB, .inl (cI, 60, .inl (if cdApp tn x = 0 then upd B0 tn x else B0)))] := (((congrArg (fun z_ => ([(o, .inr (4, [.int z_, .ref aS, .ref aA, .ref aV, .int sm, .ref aB, .int (nI tn), .int at_, .int wl, .ref aR, .int rm, .int ga, .int fi, .int se, .int ex, .long ha])), (aB, .inl (cI, 60, .inl B0))] : va_W)) ec_r21_3_o_0).trans (congrArg (fun z_ => ([(o, .inr (4, [.int (nI (cdApp tn x)), .ref aS, .ref aA, .ref aV, .int sm, .ref aB, .int z_, .int at_, .int wl, .ref aR, .int rm, .int ga, .int fi, .int se, .int ex, .long ha])), (aB, .inl (cI, 60, .inl B0))] : va_W)) ec_r21_3_o_6)).trans (congrArg (fun z_ => ([(o, .inr (4, [.int (nI (cdApp tn x)), .ref aS, .ref aA, .ref aV, .int sm, .ref aB, .int (nI (if cdApp tn x = 0 then tn + 1 else tn)), .int at_, .int wl, .ref aR, .int rm, .int ga, .int fi, .int se, .int ex, .long ha])), (aB, .inl (cI, 60, .inl z_))] : va_W)) ec_r21_3_aB))
    have hP9 := (w_cgP ew_r21_3 hP)
    have hD9 := (w_cgD ew_r21_3 hD)
    exact W.iret (v := (nI 0)) hx hb hr (fun t ht hW => ⟨⟨(nI 0), (), rfl, (show (nI 0) = (nI (if cdApp tn x = 0 then tn + 1 else 0)) from by first | rfl | (first | (simp [cdApp, c_13] <;> rfl))), by rw [ht]; exact hP9, va_K.moved hW.alike hK, hD9⟩, hS.F ht⟩) hS.2.2 dX6_append_21
