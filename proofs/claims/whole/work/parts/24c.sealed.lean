/-! SEALED: the class' own, that may throw -/
abbrev nseC : String := "java/util/NoSuchElementException"
abbrev iaeC : String := "java/lang/IllegalArgumentException"
abbrev rteC : String := "java/lang/RuntimeException"
abbrev excC : String := "java/lang/Exception"
/-- what a throw asks of the start -/
def XSp (A : Nat → Prop) (U : State) (H : Heap) : Prop :=
  (vx_Zq Bundle.tN "UNASSIGNED_STACK" Bundle.steD A U H ∧ vx_Zq Bundle.tN "SUPPRESSED_SENTINEL" Bundle.listD A U H) ∧ ((∃ q, vk_R RX11 182 "no such sealed one" q U) ∧ ∃ q, vk_R RX11 192 "no such what" q U) ∧
  (va_Nw (.declares (Bundle.initS rteC)) U ∧ va_Nw (.declares (Bundle.initS excC)) U ∧ va_Nw (.declares (Bundle.initS Bundle.tN)) U) ∧ (va_Nw (.castable nseC nseC) U ∧ va_Nw (.castable iaeC iaeC) U) ∧ va_Nc iaeC nseC U
theorem XSp.warm {A B : Nat → Prop} {s U : State} {H H1 : Heap} (h : XSp A s H) (hW : s.WarmedH U.vm) (hq : ∀ a : Nat, a < H.size → ¬ A a → H1[a]? = H[a]?) (hAB : ∀ q, B q → A q) : XSp B U H1 := by
  obtain ⟨⟨h1, h2⟩, ⟨⟨q3, h3⟩, q4, h4⟩, ⟨h5, h6, h7⟩, ⟨h8, h9⟩, h10⟩ := h
  exact ⟨⟨((h1.kept hq).narrow hAB).moved hW.alike, ((h2.kept hq).narrow hAB).moved hW.alike⟩, ⟨⟨q3, h3.warm hW⟩, q4, h4.warm hW⟩, ⟨va_Nw.warmD hW h5, va_Nw.warmD hW h6, va_Nw.warmD hW h7⟩, ⟨va_Nw.warmC hW h8, va_Nw.warmC hW h9⟩, h10.moved hW.alike⟩
theorem XSp.same {A : Nat → Prop} {s U : State} {H : Heap} (h : XSp A s H) (hv : U.vm = s.vm) : XSp A U H := by
  have ha : s.vm.Alike U.vm := by rw [hv]; exact Vm.Alike.refl _
  obtain ⟨⟨h1, h2⟩, ⟨⟨q3, h3⟩, q4, h4⟩, ⟨h5, h6, h7⟩, ⟨h8, h9⟩, h10⟩ := h
  exact ⟨⟨h1.moved ha, h2.moved ha⟩, ⟨⟨q3, h3.same hv⟩, q4, h4.same hv⟩, ⟨va_Nw.same rfl hv.symm h5, va_Nw.same rfl hv.symm h6, va_Nw.same rfl hv.symm h7⟩, ⟨va_Nw.same rfl hv.symm h8, va_Nw.same rfl hv.symm h9⟩, h10.moved ha⟩
def rmS : Room := { frames := 10, cells := 1, slots := 6, locals := 640 }
def PCx (D : va_G) (cy : Nat → ClassId) (ad : Nat → Nat) (st : St) (sz : Nat) (as : List Value) : Array Value → State → Prop :=
  va_Pc (as.map (cv ad)) (fun U => U.heap.size = sz ∧ va_P D vwCl (cw cy ad st) U.heap ∧ va_K D vwCl (tyl cy) U ∧ va_D (fun _ => True) (cw cy ad st) ∧ EX ad (va_A (cw cy ad st) sz) U U.heap ∧ XSp (va_A (cw cy ad st) sz) U U.heap)
def XCw (D : va_G) (cy : Nat → ClassId) (ad : Nat → Nat) (A : Nat → Prop) (st : St) (px : String → Prop) : String → State → State → Prop := fun E s0 t => px E ∧ va_P D vwCl (cw cy ad st) t.heap ∧ va_K D vwCl (tyl cy) t ∧ va_D A (cw cy ad st) ∧ va_F A s0 t
def MX (l : Launch) (D : va_G) (cy : Nat → ClassId) (Y : MY) (as : List Value) (st : St) (post : Option Value → St → Prop) (px : String → Prop) : Prop :=
  ∀ (ad : Nat → Nat) (sz : Nat), vx_Met l Y.1 (wsY Y) rmS (PCx D cy ad st sz as) (QC D cy ad (va_A (cw cy ad st) sz) post) (XCw D cy ad (va_A (cw cy ad st) sz) st px) 1 6 (va_A (cw cy ad st) sz)
theorem MX.ofG {l : Launch} {D : va_G} {cy : Nat → ClassId} {Y : MY} {as : List Value} {st : St} {post : Option Value → St → Prop} {px : String → Prop} (L : List (Option Value)) (hy : plainName Y.1.cls = true) (hn : (li as).length ≤ Y.2.2.1) (hL : li as ++ List.replicate (Y.2.2.1 - (li as).length) none = L)
    (k : ∀ (p : Program) (e : Env) (s : State) (m : MethodId) (args : Array Value) (below : List Frame) (meth : Method) (c : Code) (ad : Nat → Nat) (A : Nat → Prop), XSp A s s.heap → (∀ x ∈ c.exceptionTable.toList, False) → GQ p l e rmS s m args below meth c D cy ad A (Y.2.1, Y.1.cls, Y.2.2.1, Y.2.2.2) (vx_MQ below (QC D cy ad A post) (XCw D cy ad A st px) args s 1 6 A) 0 0 (fun _ => True) 0 L [] st) : MX l D cy Y as st post px := by
  intro ad sz
  refine vx_ofW (cc := Y.2.1) (maxL := Y.2.2.1) (ret := Y.2.2.2) hy rfl ?_
  intro p e s m args below meth c s₁ B hml ht hv
  obtain ⟨rfl, hsz, hP, hK, hD0, hE, hXS⟩ := hv
  subst hsz
  have hD := hD0.self (sz := s.heap.size)
  have hl := lv_entry (as.map (cv ad)) (n := Y.2.2.1) (by rw [li_len]; exact hn)
  rw [lg_entry_eq]
  refine k p e s m _ below meth c ad (va_A (cw cy ad st) s.heap.size) hXS ht ⟨B.exec, B.bytes, hml, B.returns, B.notSynchronized, findClass_of_methodNamed B.named, fun w hw => atoms_spec (ws := wsY Y) B.pre w (List.mem_cons_of_mem _ hw), hK, fun q h => Or.inr h, hE⟩ s.heap [] _ ?_ hP hD va_S.rf True.intro
  rw [← hL, li_pv]
  exact hl
section QX
variable {p : Program} {l : Launch} {e : Env} {s : State} {m : MethodId} {args : Array Value} {below : List Frame} {meth : Method} {c : Code} {D : va_G} {cy : Nat → ClassId} {ad : Nat → Nat} {A : Nat → Prop} {I : MI} {post : Option Value → St → Prop} {px : String → Prop} {pc : Nat} {L : List (Option Value)} {S : List Value} {st st0 : St}
theorem qx_ret {x : Int32} (hr : I.2.2.2 = some .int) (hd : decode I.1 pc = .ok (.ireturn, 1)) (hp : post (some (.int x)) st) : GQ p l e rmS s m args below meth c D cy ad A I (vx_MQ below (QC D cy ad A post) (XCw D cy ad A st0 px) args s 1 6 A) 0 0 (fun _ => True) pc L [.int x] st :=
  fun h H locs ls hl hP hD hS _ => W.widen (Nat.zero_le 1) (Nat.zero_le 6) (vx_ret (W.iret (v := x) h.1 h.2.1 (h.2.2.2.1.trans hr) (fun t ht hW => ⟨⟨some (.int x), st, rfl, hp, by rw [ht]; exact hP, va_K.moved hW.alike h.2.2.2.2.2.2.2.1, hD⟩, hS.F ht⟩) hS.2.2 hd h.2.2.2.2.1))
theorem xw_good {a : Array Value} {s : State} (hw : ∀ w ∈ wsA, w.before a s = true) (hX : XSp A s s.heap) {X : String} (hc : va_Nw (.castable X X) s) {W9 : List Cond} (h1 : ∀ w ∈ W9, w ∈ lw_tbl) (h2 : ∀ w ∈ W9.filter (fun w => !goodWord w), w ∈ [Cond.declares (Bundle.initS rteC), Cond.declares (Bundle.initS excC), Cond.declares (Bundle.initS Bundle.tN), Cond.castable X X]) : ∀ w ∈ W9, w.before a s = true := by
  refine vx_hat (fun w hw9 => hw w (List.mem_filter.mpr ⟨h1 w (List.mem_filter.mp hw9).1, (List.mem_filter.mp hw9).2⟩)) h2 ?_
  obtain ⟨-, -, ⟨h5, h6, h7⟩, -⟩ := hX
  exact vx_c (va_Nw.use rfl h5) (vx_c (va_Nw.use rfl h6) (vx_c (va_Nw.use rfl h7) (vx_c (va_Nw.use rfl hc) vx_n)))
abbrev wNse : List Cond := (xsA RX11 184 nseC rteC 13 prog_25_method_4_code [excC]).filter vx_no
abbrev wIae : List Cond := (xsA RX11 194 iaeC rteC 7 prog_17_method_2_code [excC]).filter vx_no
theorem wNse_1 : ∀ w ∈ wNse, w ∈ lw_tbl := by decide +kernel
theorem wIae_1 : ∀ w ∈ wIae, w ∈ lw_tbl := by decide +kernel
theorem wNse_2 : ∀ w ∈ wNse.filter (fun w => !goodWord w), w ∈ [Cond.declares (Bundle.initS rteC), Cond.declares (Bundle.initS excC), Cond.declares (Bundle.initS Bundle.tN), Cond.castable nseC nseC] := by decide +kernel
theorem wIae_2 : ∀ w ∈ wIae.filter (fun w => !goodWord w), w ∈ [Cond.declares (Bundle.initS rteC), Cond.declares (Bundle.initS excC), Cond.declares (Bundle.initS Bundle.tN), Cond.castable iaeC iaeC] := by decide +kernel
theorem wNse_3 : ∀ w ∈ Cond.classLink RX11 180 nseC :: Cond.initialized nseC :: wNse, vx_ot w = true := by decide +kernel
theorem wIae_3 : ∀ w ∈ Cond.classLink RX11 190 iaeC :: Cond.initialized iaeC :: wIae, vx_ot w = true := by decide +kernel
theorem wNse_4 : (Cond.classLink RX11 180 nseC ∈ lw_tbl ∧ goodWord (Cond.classLink RX11 180 nseC) = true) ∧ Cond.initialized nseC ∈ lw_tbl ∧ goodWord (Cond.initialized nseC) = true := by decide +kernel
theorem wIae_4 : (Cond.classLink RX11 190 iaeC ∈ lw_tbl ∧ goodWord (Cond.classLink RX11 190 iaeC) = true) ∧ Cond.initialized iaeC ∈ lw_tbl ∧ goodWord (Cond.initialized iaeC) = true := by decide +kernel
theorem fits9 : Bundle.fit nseC = true ∧ Bundle.fit iaeC = true ∧ Bundle.fit rteC = true ∧ ∀ n ∈ [excC], Bundle.fit n = true := by decide +kernel
theorem hNse : hands prog_25_method_4_code 13 := ⟨by decide +kernel, by decide +kernel, by decide +kernel, by decide +kernel⟩
theorem hIae : hands prog_17_method_2_code 7 := ⟨by decide +kernel, by decide +kernel, by decide +kernel, by decide +kernel⟩
theorem wsA_of {w : Cond} (h : w ∈ lw_tbl ∧ goodWord w = true) : w ∈ wsA := List.mem_filter.mpr h
/-- the world behind a throw -/
theorem xc_of (h : GH p s m args meth c D cy ad A I) {H : Heap} {locs : List Loc} (hP : va_P D vwCl (cw cy ad st) H) (hD : va_D A (cw cy ad st)) (hS : va_S A s.heap H locs) {E : String} (hp : px E) : ∀ t : State, s.vm.Alike t.vm → H.size ≤ t.heap.size → (∀ q : Nat, q < H.size → t.heap[q]? = H[q]?) → XCw D cy ad A st px E s t := fun t ha hz hq =>
  ⟨hp, hP.kept (fun k q hk => hq q.1 (vx_lt hP hk)), va_K.moved ha h.2.2.2.2.2.2.2.1, hD, Nat.le_trans hS.1 hz, fun q h1 h2 => by rw [hq q (Nat.lt_of_lt_of_le h1 hS.1)]; exact hS.2.1 q h1 h2⟩
theorem qx_nse (hl : l.stackTraces = false) (hX : XSp A s s.heap) (hno : ∀ x ∈ c.exceptionTable.toList, False) (hp : px nseC) (hS8 : (S.map fun v => v.category).sum ≤ 8) (hI : I.2.1 = RX11) (d0 : decode I.1 pc = .ok (.new 180, 3)) (d3 : decode I.1 (pc + 3) = .ok (.dup, 1)) (d4 : decode I.1 (pc + 4) = .ok (.ldc 182, 2)) (d6 : decode I.1 (pc + 6) = .ok (.invokespecial 184, 3)) (d9 : decode I.1 (pc + 9) = .ok (.athrow, 1)) : GQ p l e rmS s m args below meth c D cy ad A I (vx_MQ below (QC D cy ad A post) (XCw D cy ad A st px) args s 1 6 A) 0 0 (fun _ => True) pc L S st := by
  intro h H locs ls hls hP hD hS _
  obtain ⟨q, hstr⟩ := hX.2.1.1
  have hw := h.2.2.2.2.2.2.1
  refine xs_throw (sa := q) h.1 h.2.1 hl hNse (by rw [← hI]; exact h.2.2.2.2.2.1) fits9.1 fits9.2.2.1 fits9.2.2.2 (hw _ (wsA_of wNse_4.1)) (hw _ (wsA_of wNse_4.2)) hstr (xw_good hw hX hX.2.2.2.1.1 wNse_1 wNse_2) wNse_3 hX.1.1 hX.1.2 hS (hls.1.trans h.2.2.1.symm) d0 d3 d4 d6 d9 (fun x hx => absurd (hno x hx) id) (by decide) ?_ (by decide) (by decide) h.2.2.2.2.1 (xc_of h hP hD hS hp) hS.2.2 (by decide) (by decide)
  rw [cat_S]
  show (S.map fun v => v.category).sum + (13 * (1 + 2) + 43) ≤ 640
  omega
theorem qx_iae (hl : l.stackTraces = false) (hX : XSp A s s.heap) (hno : ∀ x ∈ c.exceptionTable.toList, False) (hp : px iaeC) (hS8 : (S.map fun v => v.category).sum ≤ 8) (hI : I.2.1 = RX11) (d0 : decode I.1 pc = .ok (.new 190, 3)) (d3 : decode I.1 (pc + 3) = .ok (.dup, 1)) (d4 : decode I.1 (pc + 4) = .ok (.ldc 192, 2)) (d6 : decode I.1 (pc + 6) = .ok (.invokespecial 194, 3)) (d9 : decode I.1 (pc + 9) = .ok (.athrow, 1)) : GQ p l e rmS s m args below meth c D cy ad A I (vx_MQ below (QC D cy ad A post) (XCw D cy ad A st px) args s 1 6 A) 0 0 (fun _ => True) pc L S st := by
  intro h H locs ls hls hP hD hS _
  obtain ⟨q, hstr⟩ := hX.2.1.2
  have hw := h.2.2.2.2.2.2.1
  refine xs_throw (sa := q) h.1 h.2.1 hl hIae (by rw [← hI]; exact h.2.2.2.2.2.1) fits9.2.1 fits9.2.2.1 fits9.2.2.2 (hw _ (wsA_of wIae_4.1)) (hw _ (wsA_of wIae_4.2)) hstr (xw_good hw hX hX.2.2.2.1.2 wIae_1 wIae_2) wIae_3 hX.1.1 hX.1.2 hS (hls.1.trans h.2.2.1.symm) d0 d3 d4 d6 d9 (fun x hx => absurd (hno x hx) id) (by decide) ?_ (by decide) (by decide) h.2.2.2.2.1 (xc_of h hP hD hS hp) hS.2.2 (by decide) (by decide)
  rw [cat_S]
  show (S.map fun v => v.category).sum + (13 * (1 + 2) + 43) ≤ 640
  omega
end QX
