section LAWPRE
variable {p : Program} {l : Launch} {e : Env} {R : Room} {s : State} {m : MethodId} {args : Array Value} {below : List Frame} {meth : Method} {c : Code} {H : Heap} {locs : List Loc} {cells slots : Nat} {Q : State → Prop} {cc : ByteArray} {pc : Nat} {ls : Array Slot} {rest : List Value}
theorem n_lcmp (hx : p.tables.exec = Jvm.exec) (hb : c.code = cc) {x y : Int64} (h : x = y) (d : decode cc pc = .ok (.lcmp, 1)) {off : Int} {tgt : Nat} (d2 : decode cc (pc + 1) = .ok (.ifCond .eq off, 3)) (ht : ((pc + 1 : Nat) : Int) + off = (tgt : Int))
    (k : W p l e R s m args below meth c H locs cells slots Q (F0 m tgt ls rest)) : W p l e R s m args below meth c H locs cells slots Q (F0 m pc ls (.long y :: .long x :: rest)) := by
  subst h
  refine W.lcmp hx hb d ?_
  refine lv_if_eq (tgt := tgt) hx hb d2 ht (fun _ => k) (fun q => ?_)
  exact absurd (by simp [lg_cmp]) q
theorem n_arg {A : Nat → Prop} (hx : p.tables.exec = Jvm.exec) (hb : c.code = cc) {b L i k : Nat} {xs : Nat → Int32} (hX : va_X b L xs s s.heap) (hbl : b < s.heap.size) (hbA : ¬ A b) (hS : va_S A s.heap H locs) (hj : i + k < L) (hL : L ≤ 2048) {kc : Int}
    (d1 : decode cc pc = .ok (.aload_n 0, 1)) (d2 : decode cc (pc + 1) = .ok (.iload 4, 2)) (d3 : decode cc (pc + 3) = .ok (.iconst kc, 1)) (d4 : decode cc (pc + 4) = .ok (.iadd, 1)) (d5 : decode cc (pc + 5) = .ok (.iaload, 1)) (hk : Int32.ofInt kc = nI k)
    (h0 : ls[0]? = some (.val (.ref b))) (h4 : ls[4]? = some (.val (.int (nI i))))
    (kk : W p l e R s m args below meth c H locs cells slots Q (F0 m (pc + 6) ls (.int (xs (i + k)) :: rest))) : W p l e R s m args below meth c H locs cells slots Q (F0 m pc ls rest) := by
  refine lv_aload_n hx hb d1 rfl h0 ?_
  refine lv_iload hx hb d2 h4 ?_
  refine lv_iconst (v := nI k) hx hb d3 hk ?_
  refine lv_iadd hx hb d4 ?_
  rw [nI_add]
  refine va_sld hx hb hX hbl hbA hS (vp_in_nI hj (by omega)) d5 ?_
  rw [nI_clamp (by omega)]
  exact kk
end LAWPRE
abbrev Fr (s : State) : Nat → Prop := fun q => s.heap.size ≤ q
/-- what stands all through the law -/
abbrev LC0 (p : Program) (l : Launch) (s : State) (m : MethodId) (args : Array Value) (c : Code) (b0 L : Nat) (xs : Nat → Int32) (dC : Nat → ClassId) (dI : Nat → Nat → Nat) (cI cV cW cL : ClassId) (wa sw : Nat) (ad aK aV : Nat → Nat) (sa : Nat → Nat) : Prop :=
  p.tables.exec = Jvm.exec ∧ c.code = cL_law ∧ c.maxLocals = 9 ∧ s.vm.findClass RL = some m.cls ∧ (∀ w ∈ fI wsL_law, w.before args s = true) ∧ va_X b0 L xs s s.heap ∧ b0 < s.heap.size ∧ L ≤ 2048 ∧ va_K (dC, dI) vwCl (tyL cI cV cW cL) s ∧ IMM wa sw ad aK aV (Fr s) s s.heap ∧ va_Nw nwW s ∧ XIM sa (Fr s) s s.heap ∧ NC3 s ∧ l.stackTraces = false
/-- the state between two orders of the script -/
abbrev LST (s : State) (dC : Nat → ClassId) (dI : Nat → Nat → Nat) (cI cV cW cL : ClassId) (a : Nat → Nat) (A : Nat → Nat → Nat) (X : XS) (M : MS) (ou : Nat → Int64) (H : Heap) (locs : List Loc) (b0 i : Nat) (ls : Array Slot) : Prop :=
  va_P (dC, dI) vwCl (LW cI cV cW cL a A X M ou) H ∧ va_D (Fr s) (LW cI cV cW cL a A X M ou) ∧ va_S (Fr s) s.heap H locs ∧ INV X M ∧ lv_has ls 9 [(4, .int (nI i)), (3, .ref (a 14)), (2, .ref (a 8)), (1, .ref (a 0)), (0, .ref b0)]
theorem hdX6_thrown : yX6_thrown.cls = RX6 ∧ yX6_thrown.cls ≠ "java/lang/invoke/MethodHandle" ∧ yX6_thrown.cls ≠ "java/lang/invoke/VarHandle" ∧ (parseMethodDescriptor yX6_thrown.desc).map (fun d => d.parameters.length) = some 0 := by decide +kernel
