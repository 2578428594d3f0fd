/-! CONTRACTS OVER THE STEADY WORLD, AND CALLS -/
abbrev MY : Type := MethodName × ByteArray × Nat × Option FieldType
def rmd (d : Nat) : Room := { frames := d, cells := 0, slots := 0, locals := 64 * d }
def wsY (Y : MY) : List Cond := .code Y.1 Y.2.1 Y.2.2.1 Y.2.2.2 :: wsA
def PCo (D : va_G) (cy : Nat → ClassId) (ad : Nat → Nat) (st : St) (sz : Nat) (as : List Value) : Array Value → State → Prop :=
  va_Pc (as.map (cv ad)) (fun U => U.heap.size = sz ∧ va_P D vwCl (cw cy ad st) U.heap ∧ va_K D vwCl (tyl cy) U ∧ va_D (fun _ => True) (cw cy ad st) ∧ EX ad (va_A (cw cy ad st) sz) U U.heap)
def M (l : Launch) (D : va_G) (cy : Nat → ClassId) (d : Nat) (Y : MY) (as : List Value) (st : St) (post : Option Value → St → Prop) : Prop :=
  ∀ (ad : Nat → Nat) (sz : Nat), Met l Y.1 (wsY Y) (rmd d) (PCo D cy ad st sz as) (QC D cy ad (va_A (cw cy ad st) sz) post) 0 0 (va_A (cw cy ad st) sz)
def li : List Value → List (Option Value)
  | [] => []
  | v :: vs => if v.category = 2 then some v :: none :: li vs else some v :: li vs
theorem li_pv (ad : Nat → Nat) (k : Nat) : ∀ (as : List Value) (i : Nat), pv ad i (li as ++ List.replicate k none) = lv_args i (as.map (cv ad))
  | [], i => by
    show pv ad i (List.replicate k none) = []
    induction k generalizing i with
    | zero => rfl
    | succ k ih => exact ih (i + 1)
  | v :: vs, i => by
    simp only [li, List.map_cons, lv_args, cv_cat]
    by_cases h : v.category = 2
    · simp only [h, if_true, List.cons_append, pv]
      rw [li_pv ad k vs (i + 1 + 1)]
    · simp only [h, if_false, List.cons_append, pv]
      rw [li_pv ad k vs (i + 1)]
theorem li_len (ad : Nat → Nat) : ∀ (as : List Value), (lg_sl (as.map (cv ad))).length = (li as).length
  | [] => rfl
  | v :: vs => by
    have ih := li_len ad vs
    simp only [lg_sl, List.map_cons, List.flatMap_cons, List.length_append, li, cv_cat] at ih ⊢
    by_cases h : v.category = 2
    · simp [h]
      simp at ih
      omega
    · simp [h]
      simp at ih
      omega
theorem M.ofG {l : Launch} {D : va_G} {cy : Nat → ClassId} {d : Nat} {Y : MY} {as : List Value} {st : St} {post : Option Value → St → Prop} (L : List (Option Value)) (hy : plainName Y.1.cls = true) (hn : (li as).length ≤ Y.2.2.1) (hL : li as ++ List.replicate (Y.2.2.1 - (li as).length) none = L)
    (k : ∀ (p : Program) (e : Env) (s : State) (m : MethodId) (args : Array Value) (below : List Frame) (meth : Method) (c : Code) (ad : Nat → Nat) (A : Nat → Prop), G p l e (rmd d) s m args below meth c D cy ad A (Y.2.1, Y.1.cls, Y.2.2.1, Y.2.2.2) post 0 L [] st) : M l D cy d Y as st post := by
  intro ad sz
  refine Met.ofW (cc := Y.2.1) (maxL := Y.2.2.1) (ret := Y.2.2.2) hy rfl ?_
  intro p e s m args below meth c s₁ B hml hv
  obtain ⟨rfl, hsz, hP, hK, hD0, hE⟩ := hv
  subst hsz
  have hD := hD0.self (sz := s.heap.size)
  have hl := lv_entry (as.map (cv ad)) (n := Y.2.2.1) (by rw [li_len]; exact hn)
  rw [lg_entry_eq]
  refine k p e s m _ below meth c ad (va_A (cw cy ad st) s.heap.size) ⟨B.exec, B.bytes, hml, B.returns, B.notSynchronized, findClass_of_methodNamed B.named, fun w hw => atoms_spec (ws := wsY Y) B.pre w (List.mem_cons_of_mem _ hw), hK, fun q h => Or.inr h, hE⟩ s.heap [] _ ?_ hP hD va_S.rf
  rw [← hL, li_pv]
  exact hl
def CB (own : String) (x : Nat) (Y : MY) (n : Nat) : Prop := Cond.methodLink own x Y.1 ∈ wsA ∧ Cond.initialized Y.1.cls ∈ wsA ∧ Cond.code Y.1 Y.2.1 Y.2.2.1 Y.2.2.2 ∈ wsA ∧ (Y.1.cls ≠ "java/lang/invoke/MethodHandle" ∧ Y.1.cls ≠ "java/lang/invoke/VarHandle" ∧ (parseMethodDescriptor Y.1.desc).map (fun d => d.parameters.length) = some n) ∧ Y.2.2.1 ≤ 45
def CS (own : String) (x : Nat) (Y : MY) (n : Nat) : Prop := CB own x Y n ∧ Cond.static Y.1 ∈ wsA
def CV (own : String) (x : Nat) (Y : MY) (n : Nat) : Prop := CB own x Y n ∧ Cond.instanceMethod Y.1 ∈ wsA ∧ Cond.selects Y.1.cls Y.1 Y.1 ∈ wsA
theorem good_wsA {w : Cond} (h : w ∈ wsA) : w ∈ wsA ∧ ((w.onTables && w.keeps) = true ∨ ∃ ty, w = .arrayClass ty) := ⟨h, good_of_word (wsA_good w h)⟩
theorem good_Y {own : String} {x n : Nat} {Y : MY} (h : CB own x Y n) : GoodIn wsA (wsY Y) := fun w hw => by
  rcases List.mem_cons.mp hw with rfl | hw
  · exact good_wsA h.2.2.1
  · exact good_wsA hw
theorem cb_of {R : Room} {s : State} {args : Array Value} {own : String} {x n d : Nat} {Y : MY} (h : CB own x Y n) (ht : ∀ w ∈ wsA, w.before args s = true) (hR : d + 1 ≤ R.frames ∧ 64 * (d + 1) ≤ R.locals) : CallB R s args own x Y.1 Y.2.1 Y.2.2.1 Y.2.2.2 (wsY Y) (rmd d) 0 0 n :=
  callB_of n ht (good_Y h) rfl rfl rfl (ht _ h.2.1) (ht _ h.1) h.2.2.2.1 ⟨hR.1, by show 8 + (Y.2.2.1 + 11) + 64 * d ≤ R.locals; have := h.2.2.2.2; omega⟩
theorem pco_blind {D : va_G} {cy : Nat → ClassId} {ad : Nat → Nat} {st : St} {sz : Nat} {as : List Value} : FrameBlind (PCo D cy ad st sz as) := fun a U g mk q => by
  obtain ⟨q0, q1, qP, qK, qD, qE⟩ := q
  exact ⟨q0, q1, qP, va_K.moved (u := U) (U := U.calling g mk a) (Vm.Alike.refl U.vm) qK, qD, EX.same (s := U) (U := U.calling g mk a) qE rfl⟩
section GC
variable {p : Program} {l : Launch} {e : Env} {R : Room} {s : State} {m : MethodId} {args : Array Value} {below : List Frame} {meth : Method} {c : Code} {D : va_G} {cy : Nat → ClassId} {ad : Nat → Nat} {A : Nat → Prop} {I : MI} {post : Option Value → St → Prop} {pc n : Nat} {L : List (Option Value)} {S : List Value} {st : St}
theorem free_A {H : Heap} {locs : List Loc} (hD : va_D A (cw cy ad st)) (hS : va_S A s.heap H locs) (hA : ∀ q, s.heap.size ≤ q → A q) : ∀ q, va_A (cw cy ad st) H.size q → A q := by
  intro q h
  rcases h with ⟨k, e, h⟩ | h
  · exact hD.2 k _ h
  · exact hA q (Nat.le_trans hS.1 h)
theorem pco_at {H : Heap} {locs : List Loc} {as : List Value} (h : GH p s m args meth c D cy ad A I) (hP : va_P D vwCl (cw cy ad st) H) (hD : va_D A (cw cy ad st)) (hS : va_S A s.heap H locs) : ∀ U : State, U.heap = H → s.WarmedH U.vm → PCo D cy ad st H.size as (as.map (cv ad)).toArray U := fun U hU hW =>
  ⟨rfl, by rw [hU], by rw [hU]; exact hP, va_K.moved hW.alike h.2.2.2.2.2.2.2.1, hD.weaken (fun _ _ _ _ => trivial), by rw [hU]; exact h.2.2.2.2.2.2.2.2.2.warm hW hS.2.1 (free_A hD hS h.2.2.2.2.2.2.2.2.1)⟩
theorem run_G {H : Heap} {locs : List Loc} {cells slots : Nat} {ls : Array Slot} {rest st0 : List Value} {a : Array Value} {post2 : Option Value → St → Prop} {Q : State → Prop} (hr : va_Run p l e R s m args below meth c H locs cells slots 0 0 (F0 m pc ls st0) rest (QC D cy ad (va_A (cw cy ad st) H.size) post2 a) (va_A (cw cy ad st) H.size)) (hD : va_D A (cw cy ad st)) (hS : va_S A s.heap H locs) (hA : ∀ q, s.heap.size ≤ q → A q)
    (kk : ∀ (v : Option Value) (u : St) (H1 : Heap) (locs1 : List Loc), post2 v u → va_P D vwCl (cw cy ad u) H1 → va_D A (cw cy ad u) → va_S A s.heap H1 locs1 → W p l e R s m args below meth c H1 locs1 cells slots Q (F0 m (pc + 3) ls ((v.map (cv ad)).toList ++ rest))) : W p l e R s m args below meth c H locs cells slots Q (F0 m pc ls st0) := by
  intro T hT X
  obtain ⟨v9, st₀, t, T', L9, h0, X', hL, e1, e2, ⟨⟨v, u, hv, hp, hPu, -, hDu⟩, hz, hk⟩, st9⟩ := hr T hT X
  cases hv
  rw [h0] at hz hk
  have hf := free_A (s := s) hD hS hA
  obtain ⟨t2, a1, b1⟩ := kk v u T'.heap (locs ++ L9) hp (by rw [e1]; exact hPu) (hDu.weaken (fun _ q _ h => hf q.1 h))
    ⟨Nat.le_trans hS.1 (by rw [e1]; exact hz), fun q h1 h2 => by rw [e1, hk q (Nat.lt_of_lt_of_le h1 hS.1) (fun z => h2 (hf q z))]; exact hS.2.1 q h1 h2, fun q hq => by
      rcases List.mem_append.mp hq with h | h
      · exact hS.2.2 q h
      · exact hf _ (hL q h)⟩ T' rfl X'
  exact ⟨t2, st9 t2 a1, b1⟩
theorem cat_S (ad : Nat → Nat) (S : List Value) : ((S.map (cv ad)).map fun v => v.category).sum = (S.map fun v => v.category).sum := by
  rw [List.map_map]
  congr 1
  exact List.map_congr_left (fun v _ => cv_cat ad v)
theorem stk_v (ad : Nat → Nat) (v : Option Value) (S : List Value) : (v.map (cv ad)).toList ++ S.map (cv ad) = (v.toList ++ S).map (cv ad) := by cases v <;> rfl
theorem g_callS {x d : Nat} {Y : MY} {as S0 : List Value} {post2 : Option Value → St → Prop} {n9 : Nat} (hM : M l D cy d Y as st post2) (hw : CS I.2.1 x Y n9) (hd : DD I.1 pc (.invokestatic x) 3 n) (hR : d + 1 ≤ R.frames ∧ 64 * (d + 1) ≤ R.locals) (hn : as.length = n9) (hs : S0 = as.reverse ++ S) (hc : (S.map fun v => v.category).sum ≤ 8)
    (kk : ∀ (v : Option Value) (u : St), post2 v u → G p l e R s m args below meth c D cy ad A I post n L (v.toList ++ S) u) : G p l e R s m args below meth c D cy ad A I post pc L S0 st := by
  obtain ⟨h1, h2⟩ := hd
  subst h2
  subst hs
  intro h H locs ls hl hP hD hS
  refine run_G (st := st) (rest := S.map (cv ad)) (post2 := post2) (va_runS (As := as.map (cv ad)) (Ts := wsA) ⟨h.1, h.2.1, h.2.2.1, h.2.2.2.2.2.1, h.2.2.2.2.2.2.1⟩ (hM ad H.size) ⟨cb_of hw.1 h.2.2.2.2.2.2.1 hR, h.2.2.2.2.2.2.1 _ hw.2⟩ ⟨pco_blind, pco_at h hP hD hS⟩ rfl (by rw [List.length_map]; exact hn) hl.1 (by show (as.reverse ++ S).map (cv ad) = _; rw [List.map_append, List.map_reverse]) (by show 2 * 0 + _ ≤ 8; rw [cat_S]; omega) h1 ⟨Nat.zero_le _, Nat.zero_le _⟩) hD hS h.2.2.2.2.2.2.2.2.1 (fun v u H1 locs1 hp hP1 hD1 hS1 => ?_)
  rw [stk_v]
  exact kk v u hp h H1 locs1 ls hl hP1 hD1 hS1
theorem g_callV {x d k ci : Nat} {Y : MY} {as S0 : List Value} {post2 : Option Value → St → Prop} {n9 : Nat} (hM : M l D cy d Y (.ref k :: as) st post2) (hk : kd k = ci) (hN : k < N0) (hci : ci < 12) (hC : RC ci = Y.1.cls) (hw : CV I.2.1 x Y n9) (hd : DD I.1 pc (.invokevirtual x) 3 n) (hR : d + 1 ≤ R.frames ∧ 64 * (d + 1) ≤ R.locals) (hn : as.length = n9) (hs : S0 = as.reverse ++ .ref k :: S) (hc : (S.map fun v => v.category).sum ≤ 8)
    (kk : ∀ (v : Option Value) (u : St), post2 v u → G p l e R s m args below meth c D cy ad A I post n L (v.toList ++ S) u) : G p l e R s m args below meth c D cy ad A I post pc L S0 st := by
  obtain ⟨h1, h2⟩ := hd
  subst h2
  subst hs
  subst hk
  intro h H locs ls hl hP hD hS
  have hrc := va_recv (q0 := k) h.2.2.2.2.2.2.2.1 hP (cl_at _ hci) ((cw_get cy ad st hN).trans (by rw [ce_obj hci]))
  refine run_G (st := st) (rest := S.map (cv ad)) (post2 := post2) (va_runV (As := as.map (cv ad)) (b := ad k) (C := Y.1.cls) (Ts := wsA) ⟨h.1, h.2.1, h.2.2.1, h.2.2.2.2.2.1, h.2.2.2.2.2.2.1⟩ (hM ad H.size) ⟨cb_of hw.1 h.2.2.2.2.2.2.1 hR, h.2.2.2.2.2.2.1 _ hw.2.1, h.2.2.2.2.2.2.1 _ hw.2.2⟩ ⟨pco_blind, by rw [← hC]; exact hrc, pco_at h hP hD hS⟩ rfl (by rw [List.length_map]; exact hn) hl.1 (by show (as.reverse ++ .ref k :: S).map (cv ad) = _; rw [List.map_append, List.map_reverse]; rfl) (by show 2 * 0 + _ ≤ 8; rw [cat_S]; omega) h1 ⟨Nat.zero_le _, Nat.zero_le _⟩) hD hS h.2.2.2.2.2.2.2.2.1 (fun v u H1 locs1 hp hP1 hD1 hS1 => ?_)
  rw [stk_v]
  exact kk v u hp h H1 locs1 ls hl hP1 hD1 hS1
end GC
/-! typed ends -/
abbrev Pi (pp : Int32 → St → Prop) : Option Value → St → Prop := fun v u => ∃ r : Int32, v = some (.int r) ∧ pp r u
abbrev Pl (pp : Int64 → St → Prop) : Option Value → St → Prop := fun v u => ∃ r : Int64, v = some (.long r) ∧ pp r u
abbrev Pv (pp : St → Prop) : Option Value → St → Prop := fun v u => v = none ∧ pp u
abbrev Mi (l : Launch) (D : va_G) (cy : Nat → ClassId) (d : Nat) (Y : MY) (as : List Value) (st : St) (pp : Int32 → St → Prop) : Prop := M l D cy d Y as st (Pi pp)
abbrev Ml (l : Launch) (D : va_G) (cy : Nat → ClassId) (d : Nat) (Y : MY) (as : List Value) (st : St) (pp : Int64 → St → Prop) : Prop := M l D cy d Y as st (Pl pp)
abbrev Mv (l : Launch) (D : va_G) (cy : Nat → ClassId) (d : Nat) (Y : MY) (as : List Value) (st : St) (pp : St → Prop) : Prop := M l D cy d Y as st (Pv pp)
section GD
variable {p : Program} {l : Launch} {e : Env} {R : Room} {s : State} {m : MethodId} {args : Array Value} {below : List Frame} {meth : Method} {c : Code} {D : va_G} {cy : Nat → ClassId} {ad : Nat → Nat} {A : Nat → Prop} {I : MI} {post : Option Value → St → Prop} {pc n : Nat} {L : List (Option Value)} {S : List Value} {st : St}
theorem g_callSi {x d n9 : Nat} {Y : MY} {as S0 : List Value} {pp : Int32 → St → Prop} (hM : Mi l D cy d Y as st pp) (hw : CS I.2.1 x Y n9) (hd : DD I.1 pc (.invokestatic x) 3 n) (hR : d + 1 ≤ R.frames ∧ 64 * (d + 1) ≤ R.locals) (hn : as.length = n9) (hs : S0 = as.reverse ++ S) (hc : (S.map fun v => v.category).sum ≤ 8)
    (kk : ∀ (r : Int32) (u : St), pp r u → G p l e R s m args below meth c D cy ad A I post n L (.int r :: S) u) : G p l e R s m args below meth c D cy ad A I post pc L S0 st := g_callS hM hw hd hR hn hs hc (fun v u h => by obtain ⟨r, rfl, h⟩ := h; exact kk r u h)
theorem g_callVi {x d n9 : Nat} {k ci : Nat} {Y : MY} {as S0 : List Value} {pp : Int32 → St → Prop} (hM : Mi l D cy d Y (.ref k :: as) st pp) (hk : kd k = ci) (hN : k < N0) (hci : ci < 12) (hC : RC ci = Y.1.cls) (hw : CV I.2.1 x Y n9) (hd : DD I.1 pc (.invokevirtual x) 3 n) (hR : d + 1 ≤ R.frames ∧ 64 * (d + 1) ≤ R.locals) (hn : as.length = n9) (hs : S0 = as.reverse ++ .ref k :: S) (hc : (S.map fun v => v.category).sum ≤ 8)
    (kk : ∀ (r : Int32) (u : St), pp r u → G p l e R s m args below meth c D cy ad A I post n L (.int r :: S) u) : G p l e R s m args below meth c D cy ad A I post pc L S0 st := g_callV hM hk hN hci hC hw hd hR hn hs hc (fun v u h => by obtain ⟨r, rfl, h⟩ := h; exact kk r u h)
theorem g_callSl {x d n9 : Nat} {Y : MY} {as S0 : List Value} {pp : Int64 → St → Prop} (hM : Ml l D cy d Y as st pp) (hw : CS I.2.1 x Y n9) (hd : DD I.1 pc (.invokestatic x) 3 n) (hR : d + 1 ≤ R.frames ∧ 64 * (d + 1) ≤ R.locals) (hn : as.length = n9) (hs : S0 = as.reverse ++ S) (hc : (S.map fun v => v.category).sum ≤ 8)
    (kk : ∀ (r : Int64) (u : St), pp r u → G p l e R s m args below meth c D cy ad A I post n L (.long r :: S) u) : G p l e R s m args below meth c D cy ad A I post pc L S0 st := g_callS hM hw hd hR hn hs hc (fun v u h => by obtain ⟨r, rfl, h⟩ := h; exact kk r u h)
theorem g_callVl {x d n9 : Nat} {k ci : Nat} {Y : MY} {as S0 : List Value} {pp : Int64 → St → Prop} (hM : Ml l D cy d Y (.ref k :: as) st pp) (hk : kd k = ci) (hN : k < N0) (hci : ci < 12) (hC : RC ci = Y.1.cls) (hw : CV I.2.1 x Y n9) (hd : DD I.1 pc (.invokevirtual x) 3 n) (hR : d + 1 ≤ R.frames ∧ 64 * (d + 1) ≤ R.locals) (hn : as.length = n9) (hs : S0 = as.reverse ++ .ref k :: S) (hc : (S.map fun v => v.category).sum ≤ 8)
    (kk : ∀ (r : Int64) (u : St), pp r u → G p l e R s m args below meth c D cy ad A I post n L (.long r :: S) u) : G p l e R s m args below meth c D cy ad A I post pc L S0 st := g_callV hM hk hN hci hC hw hd hR hn hs hc (fun v u h => by obtain ⟨r, rfl, h⟩ := h; exact kk r u h)
theorem g_callSv {x d n9 : Nat} {Y : MY} {as S0 : List Value} {pp : St → Prop} (hM : Mv l D cy d Y as st pp) (hw : CS I.2.1 x Y n9) (hd : DD I.1 pc (.invokestatic x) 3 n) (hR : d + 1 ≤ R.frames ∧ 64 * (d + 1) ≤ R.locals) (hn : as.length = n9) (hs : S0 = as.reverse ++ S) (hc : (S.map fun v => v.category).sum ≤ 8)
    (kk : ∀ u : St, pp u → G p l e R s m args below meth c D cy ad A I post n L S u) : G p l e R s m args below meth c D cy ad A I post pc L S0 st := g_callS hM hw hd hR hn hs hc (fun v u h => by obtain ⟨rfl, h⟩ := h; exact kk u h)
theorem g_callVv {x d n9 : Nat} {k ci : Nat} {Y : MY} {as S0 : List Value} {pp : St → Prop} (hM : Mv l D cy d Y (.ref k :: as) st pp) (hk : kd k = ci) (hN : k < N0) (hci : ci < 12) (hC : RC ci = Y.1.cls) (hw : CV I.2.1 x Y n9) (hd : DD I.1 pc (.invokevirtual x) 3 n) (hR : d + 1 ≤ R.frames ∧ 64 * (d + 1) ≤ R.locals) (hn : as.length = n9) (hs : S0 = as.reverse ++ .ref k :: S) (hc : (S.map fun v => v.category).sum ≤ 8)
    (kk : ∀ u : St, pp u → G p l e R s m args below meth c D cy ad A I post n L S u) : G p l e R s m args below meth c D cy ad A I post pc L S0 st := g_callV hM hk hN hci hC hw hd hR hn hs hc (fun v u h => by obtain ⟨rfl, h⟩ := h; exact kk u h)
theorem g_imax {x : Nat} {a b : Int32} (hw : Cond.methodLink I.2.1 x Lib.Math.max.name ∈ wsA ∧ Cond.static Lib.Math.max.name ∈ wsA ∧ Cond.initialized "java/lang/Math" ∈ wsA ∧ Cond.code Lib.Math.max.name Lib.Math.max.code 2 (some .int) ∈ wsA) (hR : 1 ≤ R.frames ∧ 64 ≤ R.locals) (hc : (S.map fun v => v.category).sum ≤ 8) (hd : DD I.1 pc (.invokestatic x) 3 n) (kk : G p l e R s m args below meth c D cy ad A I post n L (.int (if a < b then b else a) :: S) st) : G p l e R s m args below meth c D cy ad A I post pc L (.int b :: .int a :: S) st := by
  obtain ⟨h1, h2⟩ := hd
  subst h2
  exact fun h H locs ls hl hP hD hS => va_mmax h.1 h.2.1 (h.2.2.1.trans hl.1.symm) h.2.2.2.2.2.1 (h.2.2.2.2.2.2.1 _ hw.1) (h.2.2.2.2.2.2.1 _ hw.2.1) (h.2.2.2.2.2.2.1 _ hw.2.2.1) (h.2.2.2.2.2.2.1 _ hw.2.2.2) hR.1 (by rw [cat_S]; omega) (Nat.zero_le _) (Nat.zero_le _) h1 (kk h H locs ls hl hP hD hS)
theorem g_imin {x : Nat} {a b : Int32} (hw : Cond.methodLink I.2.1 x Lib.Math.min.name ∈ wsA ∧ Cond.static Lib.Math.min.name ∈ wsA ∧ Cond.initialized "java/lang/Math" ∈ wsA ∧ Cond.code Lib.Math.min.name Lib.Math.min.code 2 (some .int) ∈ wsA) (hR : 1 ≤ R.frames ∧ 64 ≤ R.locals) (hc : (S.map fun v => v.category).sum ≤ 8) (hd : DD I.1 pc (.invokestatic x) 3 n) (kk : G p l e R s m args below meth c D cy ad A I post n L (.int (if b < a then b else a) :: S) st) : G p l e R s m args below meth c D cy ad A I post pc L (.int b :: .int a :: S) st := by
  obtain ⟨h1, h2⟩ := hd
  subst h2
  exact fun h H locs ls hl hP hD hS => va_mmin h.1 h.2.1 (h.2.2.1.trans hl.1.symm) h.2.2.2.2.2.1 (h.2.2.2.2.2.2.1 _ hw.1) (h.2.2.2.2.2.2.1 _ hw.2.1) (h.2.2.2.2.2.2.1 _ hw.2.2.1) (h.2.2.2.2.2.2.1 _ hw.2.2.2) hR.1 (by rw [cat_S]; omega) (Nat.zero_le _) (Nat.zero_le _) h1 (kk h H locs ls hl hP hD hS)
theorem g_lmin {x : Nat} {a b : Int64} (hw : Cond.methodLink I.2.1 x Lib.MathLoose.min_long.x ∈ wsA ∧ Cond.static Lib.MathLoose.min_long.x ∈ wsA ∧ Cond.initialized "java/lang/Math" ∈ wsA ∧ Cond.code Lib.MathLoose.min_long.x Lib.MathLoose.min_long.code 4 (some .long) ∈ wsA) (hR : 1 ≤ R.frames ∧ 64 ≤ R.locals) (hc : (S.map fun v => v.category).sum ≤ 8) (hd : DD I.1 pc (.invokestatic x) 3 n) (kk : G p l e R s m args below meth c D cy ad A I post n L (.long (if b < a then b else a) :: S) st) : G p l e R s m args below meth c D cy ad A I post pc L (.long b :: .long a :: S) st := by
  obtain ⟨h1, h2⟩ := hd
  subst h2
  exact fun h H locs ls hl hP hD hS => va_mmin_long h.1 h.2.1 (h.2.2.1.trans hl.1.symm) h.2.2.2.2.2.1 (h.2.2.2.2.2.2.1 _ hw.1) (h.2.2.2.2.2.2.1 _ hw.2.1) (h.2.2.2.2.2.2.1 _ hw.2.2.1) (h.2.2.2.2.2.2.1 _ hw.2.2.2) hR.1 (by rw [cat_S]; omega) (Nat.zero_le _) (Nat.zero_le _) h1 (kk h H locs ls hl hP hD hS)
theorem g_labs {x : Nat} {a : Int64} (hw : Cond.methodLink I.2.1 x Lib.MathLoose.abs_long.x ∈ wsA ∧ Cond.static Lib.MathLoose.abs_long.x ∈ wsA ∧ Cond.initialized "java/lang/Math" ∈ wsA ∧ Cond.code Lib.MathLoose.abs_long.x Lib.MathLoose.abs_long.code 2 (some .long) ∈ wsA) (hR : 1 ≤ R.frames ∧ 64 ≤ R.locals) (hc : (S.map fun v => v.category).sum ≤ 8) (hd : DD I.1 pc (.invokestatic x) 3 n) (kk : G p l e R s m args below meth c D cy ad A I post n L (.long (if 0 < a then a else -a) :: S) st) : G p l e R s m args below meth c D cy ad A I post pc L (.long a :: S) st := by
  obtain ⟨h1, h2⟩ := hd
  subst h2
  exact fun h H locs ls hl hP hD hS => va_mabs_long h.1 h.2.1 (h.2.2.1.trans hl.1.symm) h.2.2.2.2.2.1 (h.2.2.2.2.2.2.1 _ hw.1) (h.2.2.2.2.2.2.1 _ hw.2.1) (h.2.2.2.2.2.2.1 _ hw.2.2.1) (h.2.2.2.2.2.2.1 _ hw.2.2.2) hR.1 (by rw [cat_S]; omega) (Nat.zero_le _) (Nat.zero_le _) h1 (kk h H locs ls hl hP hD hS)
end GD
