/-! the rows of the growing world: arrays of objects, stores, calls -/
section BS
variable {p : Program} {l : Launch} {e : Env} {R : Room} {s : State} {m : MethodId} {args : Array Value} {below : List Frame} {meth : Method} {c : Code} {D : va_G} {cy : Nat → ClassId} {ad : Nat → Nat} {bs : Nat} {I : MI} {Q : State → Prop} {kc ks na : Nat} {Lr Lr2 : RL9} {pc n : Nat} {L : List (Option Value)} {S : List Value} {st st2 : St}
def clQ (c : Nat) : Nat := if c = 16 then 2 else 6
theorem b_newq {k N x : Nat} {v : Int32} (hk : kd k = 16 ∨ kd k = 17) (hln : ln k = N) (ho : ord[na]? = some k) (hover : va_AO (RC (clQ (kd k))) s) (hw : Cond.classLink I.2.1 x (RC (clQ (kd k))) ∈ wsA) (hv : ¬ v < 0 ∧ v.toNatClampNeg = N) (hN4 : N ≤ 4000) (hr : kc + 1 ≤ R.cells ∧ ks + N ≤ R.slots) (hd : DD I.1 pc (.anewarray x) 3 n)
    (kk : GB p l e R s m args below meth c D cy ad bs I Q (kc + 1) (ks + N) (na + 1) Lr n L (.ref k :: S) st) : GB p l e R s m args below meth c D cy ad bs I Q kc ks na Lr pc L (.int v :: S) st := by
  obtain ⟨h1, h2⟩ := hd
  subst h2
  intro h H locs ls hl hP hD hS hH
  have hts := h.2.2.2.2.2.2.1
  obtain ⟨hN, hpk⟩ := ord_lt ho
  have hadk : ad k = H.size := by rw [hH.2.1 k hN, hpk, hH.1]
  obtain ⟨z1, z2, z3⟩ := hH.2.2 k hN (by omega)
  obtain ⟨hv1, hv2⟩ := hv
  subst hv2
  refine W.anew h.1 h.2.1 h.2.2.2.2.2.1 (hts _ hw) (va_AO.use hover) rfl h1 rfl hv1 (by omega) hr.1 hr.2 fun cA kA comp f1 f2 f3 f4 => ?_
  generalize hH1 : H.push ({ cls := cA, slots := Array.replicate v.toNatClampNeg .null, vm := .none } : Cell) = H1
  have z9 : H1.size = H.size + 1 := by rw [← hH1, Array.size_push]
  have e1 : H1[H.size]? = some (arrV cA v.toNatClampNeg (fun _ => .null)) := by rw [← hH1, Array.getElem?_push_size, ← arrV_new]
  have o1 : ∀ q : Nat, q < H.size → H1[q]? = H[q]? := fun q hq => by rw [← hH1, Array.getElem?_push, if_neg (Nat.ne_of_lt hq)]
  have hcy : cA = cy (kd k) := by
    rcases hk with q | q <;> rw [q] at f1 ⊢
    · obtain ⟨_, _, -, -, -, q4⟩ := (h.2.2.2.2.2.2.2.1.2 4 _ rfl).2
      exact Option.some.inj (f1.symm.trans q4)
    · obtain ⟨_, _, -, -, -, q4⟩ := (h.2.2.2.2.2.2.2.1.2 5 _ rfl).2
      exact Option.some.inj (f1.symm.trans q4)
  have hcell : H1[H.size]? = some (vp_cell (cy (kd k)) (ln k, paR Lr ad st k)) := by
    rw [e1, hcy, hln, paR_q hk, vp_cell_q]
    have : (fun j => va_rf ((rr Lr k j).map ad)) = fun _ => Value.null := funext (fun j => by rw [z3 j]; rfl)
    rw [this]
  have hk9 : ∀ (i : Nat) (x : Nat × va_E), (gwr cy ad na Lr st)[i]? = some x → H1[x.1]? = H[x.1]? := fun i x hx => o1 x.1 ((hP i x hx).lt)
  have hP2 : va_P D vwCl (gwr cy ad na Lr st ++ [(H.size, .inl (cy (kd k), ln k, paR Lr ad st k))]) H1 := (hP.kept hk9).app (fun i x hx => by
    have hz : i < 1 := (List.getElem?_eq_some_iff.mp hx).1
    rw [show i = 0 by omega] at hx
    cases hx
    exact hcell)
  have hD2 : va_D (fun q => bs ≤ q) (gwr cy ad na Lr st ++ [(H.size, .inl (cy (kd k), ln k, paR Lr ad st k))]) := hD.push hP rfl (by show bs ≤ H.size; rw [hH.1]; omega)
  rw [← hadk, ← ceR_arr (by omega), gw_push ho] at hP2 hD2
  show W p l e R s m args below meth c H1 locs (kc + 1) (ks + v.toNatClampNeg) Q (F0 m (pc + 3) ls (.ref H.size :: S.map (cv ad)))
  rw [← hadk]
  exact kk h H1 locs ls hl hP2 hD2 ⟨Nat.le_trans hS.1 (by omega), fun x h1 h2 => (o1 x (Nat.lt_of_lt_of_le h1 hS.1)).trans (hS.2.1 x h1 h2), hS.2.2⟩ ⟨by rw [z9, hH.1]; omega, hH.2.1, hH.2.2.up⟩
theorem b_aast {k j z : Nat} {i : Int32} (hk : kd k = 16 ∨ kd k = 17) (hN : k < N0) (hp : pos k < na) (hkz : kd z = clQ (kd k)) (hNz : z < N0) (hpz : pos z < na) (hr : r0 k j = some z) (hij : i.toNatClampNeg = j) (hin : vp_in i (ln k)) (hd : DD I.1 pc .aastore 1 n)
    (kk : GB p l e R s m args below meth c D cy ad bs I Q kc ks na ((k, j) :: Lr) n L S st) : GB p l e R s m args below meth c D cy ad bs I Q kc ks na Lr pc L (.ref z :: .int i :: .ref k :: S) st := by
  obtain ⟨h1, h2⟩ := hd
  subst h2
  intro h H locs ls hl hP hD hS hH
  have hK := h.2.2.2.2.2.2.2.1
  have hlt : i.toNatClampNeg < ln k := Nat.not_le.mp fun q => hin (Or.inr q)
  have h0 : ¬ i < 0 := fun q => hin (Or.inl q)
  have hcz : kd z < 12 := by rw [hkz]; rcases hk with q | q <;> rw [q] <;> decide
  have ha := (gw_get (cy := cy) (ad := ad) (Lr := Lr) (st := st) hN hp).trans (by rw [ceR_arr (by omega), paR_q hk])
  have hv := (gw_get (cy := cy) (ad := ad) (Lr := Lr) (st := st) hNz hpz).trans (by rw [ceR_obj hcz])
  obtain ⟨r', hr', cellV, g1, g2, g3, -⟩ := hP (pos z) _ hv
  have hcls := (hK.1 (kd z) _ (cl_at _ hcz)).2
  have ht : ∃ t0 : Nat, (tyl cy)[t0]? = some (cy (kd k), FieldType.object (RC (kd z))) := by
    rw [hkz]
    rcases hk with q | q <;> rw [q]
    · exact ⟨4, rfl⟩
    · exact ⟨5, rfl⟩
  obtain ⟨t0, ht⟩ := ht
  obtain ⟨kA, comp, k1, k2, k3, -⟩ := (hK.2 t0 _ ht).2
  have hcomp : comp = D.1 (kd z) := Option.some.inj (k3.symm.trans hcls.1)
  subst hcomp
  obtain ⟨kC, hkC, -⟩ := hcls.2
  refine W.aast h.1 h.2.1 (hP (pos k) _ ha) (fun q h => by cases h) (fun h => by cases h) k1 k2 rfl hkC ⟨h0, by show _ < (arrV _ _ _).slots.size; rw [arrV_size]; exact hlt⟩ g1 (fun q h => by rw [g3] at h; cases h) (by rw [g2]; exact hkC) (by rw [g2]; exact va_assign hcls) rfl rfl h1 fun H1 e z9 oq => ?_
  have hP2 := hP.set hD ha (e := .inl (cy (kd k), ln k, paR ((k, j) :: Lr) ad st k)) (by
    show H1[ad k]? = some (vp_cell _ _)
    rw [e]
    rw [paR_q hk, vp_cell_q, vp_cell_q, arrV_store]
    congr 2
    funext q
    rw [hij]
    by_cases hq : q = j
    · subst hq
      rw [rr_cons, if_pos ⟨rfl, rfl⟩, hr]
      simp [updV, va_rf]
    · rw [rr_cons, if_neg (fun z => hq z.2)]
      simp [updV, hq]) oq
  have hD2 := hD.set ha (e := .inl (cy (kd k), ln k, paR ((k, j) :: Lr) ad st k))
  have eG : (gwr cy ad na Lr st).set (pos k) (ad k, .inl (cy (kd k), ln k, paR ((k, j) :: Lr) ad st k)) = gwr cy ad na ((k, j) :: Lr) st := gw_set hN hp (by rw [ceR_arr (by omega)]) (fun i hi => ceR_other rfl rfl (rr_row hi))
  rw [eG] at hP2 hD2
  exact kk h H1 _ ls hl hP2 hD2 (hS.put z9 oq (hD.2 (pos k) _ ha)) ⟨by rw [z9]; exact hH.1, hH.2.1, hH.2.2.ref hp⟩
theorem b_iast {k j : Nat} {i x : Int32} (hk : kd k = 13) (hN : k < N0) (hp : pos k < na) (hij : i.toNatClampNeg = j) (hin : vp_in i (ln k)) (hd : DD I.1 pc .iastore 1 n)
    (kk : GB p l e R s m args below meth c D cy ad bs I Q kc ks na Lr n L S (sI st k j x)) : GB p l e R s m args below meth c D cy ad bs I Q kc ks na Lr pc L (.int x :: .int i :: .ref k :: S) st := by
  obtain ⟨h1, h2⟩ := hd
  subst h2
  intro h H locs ls hl hP hD hS hH
  have hK := h.2.2.2.2.2.2.2.1
  have ha := (gw_get (cy := cy) (ad := ad) (Lr := Lr) (st := st) hN hp).trans (by rw [ceR_arr (by omega), paR_i (Or.inr (Or.inl hk))])
  have ht : (tyl cy)[1]? = some (cy (kd k), .int) := by rw [hk]; rfl
  refine W.iast h.1 h.2.1 (hP (pos k) _ ha) ((hK.2 1 _ ht).1 (ln k) (fun j => .int (st.1 k j))) (fun q => by cases q) (by show ¬ (i < 0 ∨ (arrV _ _ _).slots.size ≤ _); rw [arrV_size]; exact hin) rfl rfl h1 fun H1 e z9 oq => ?_
  have hP2 := hP.set hD ha (e := .inl (cy (kd k), ln k, .inl ((sI st k j x).1 k))) (by
    show H1[ad k]? = some (vp_cell _ _)
    rw [e]
    rw [vp_cell_i, vp_cell_i, arrV_store]
    congr 2
    funext q
    rw [hij, sI_1]
    by_cases hq : q = j
    · subst hq
      simp [updV]
    · simp [updV, hq]) oq
  have hD2 := hD.set ha (e := .inl (cy (kd k), ln k, .inl ((sI st k j x).1 k)))
  have eG : (gwr cy ad na Lr st).set (pos k) (ad k, .inl (cy (kd k), ln k, .inl ((sI st k j x).1 k))) = gwr cy ad na Lr (sI st k j x) := gw_set hN hp (by rw [ceR_arr (by omega), paR_i (Or.inr (Or.inl hk))]) (fun i hi => ceR_other (sI_row hi) rfl rfl)
  rw [eG] at hP2 hD2
  exact kk h H1 _ ls hl hP2 hD2 (hS.put z9 oq (hD.2 (pos k) _ ha)) ⟨by rw [z9]; exact hH.1, hH.2.1, hH.2.2.put hp (fun a ha => sI_row ha) (fun _ _ => rfl)⟩
theorem b_last {k j : Nat} {i : Int32} {x : Int64} (hk : kd k = 14) (hN : k < N0) (hp : pos k < na) (hij : i.toNatClampNeg = j) (hin : vp_in i (ln k)) (hd : DD I.1 pc .lastore 1 n)
    (kk : GB p l e R s m args below meth c D cy ad bs I Q kc ks na Lr n L S (sL st k j x)) : GB p l e R s m args below meth c D cy ad bs I Q kc ks na Lr pc L (.long x :: .int i :: .ref k :: S) st := by
  obtain ⟨h1, h2⟩ := hd
  subst h2
  intro h H locs ls hl hP hD hS hH
  have hK := h.2.2.2.2.2.2.2.1
  have ha := (gw_get (cy := cy) (ad := ad) (Lr := Lr) (st := st) hN hp).trans (by rw [ceR_arr (by omega), paR_l hk])
  have ht : (tyl cy)[2]? = some (cy (kd k), .long) := by rw [hk]; rfl
  refine W.last h.1 h.2.1 (hP (pos k) _ ha) ((hK.2 2 _ ht).1 (ln k) (fun j => .long (st.2 k j))) (fun q => by cases q) (by show ¬ (i < 0 ∨ (arrV _ _ _).slots.size ≤ _); rw [arrV_size]; exact hin) rfl rfl h1 fun H1 e z9 oq => ?_
  have hP2 := hP.set hD ha (e := .inl (cy (kd k), ln k, .inr (.inl ((sL st k j x).2 k)))) (by
    show H1[ad k]? = some (vp_cell _ _)
    rw [e]
    rw [vp_cell_l, vp_cell_l, arrV_store]
    congr 2
    funext q
    rw [hij, sL_2]
    by_cases hq : q = j
    · subst hq
      simp [updV]
    · simp [updV, hq]) oq
  have hD2 := hD.set ha (e := .inl (cy (kd k), ln k, .inr (.inl ((sL st k j x).2 k))))
  have eG : (gwr cy ad na Lr st).set (pos k) (ad k, .inl (cy (kd k), ln k, .inr (.inl ((sL st k j x).2 k)))) = gwr cy ad na Lr (sL st k j x) := gw_set hN hp (by rw [ceR_arr (by omega), paR_l hk]) (fun i hi => ceR_other rfl (sL_row hi) rfl)
  rw [eG] at hP2 hD2
  exact kk h H1 _ ls hl hP2 hD2 (hS.put z9 oq (hD.2 (pos k) _ ha)) ⟨by rw [z9]; exact hH.1, hH.2.1, hH.2.2.put hp (fun _ _ => rfl) (fun a ha => sL_row ha)⟩
theorem wOb : Cond.instanceMethod Lib.objectInit ∈ wsA ∧ Cond.code Lib.objectInit ⟨#[0xb1]⟩ 1 none ∈ wsA := ⟨wsA_of (by decide +kernel), wsA_of (by decide +kernel)⟩
theorem b_init {k x : Nat} (hw : Cond.methodLink I.2.1 x Lib.objectInit ∈ wsA) (hR : 1 ≤ R.frames ∧ 64 ≤ R.locals) (hc : (S.map fun v => v.category).sum ≤ 8) (hd : DD I.1 pc (.invokespecial x) 3 n)
    (kk : GB p l e R s m args below meth c D cy ad bs I Q kc ks na Lr n L S st) : GB p l e R s m args below meth c D cy ad bs I Q kc ks na Lr pc L (.ref k :: S) st := by
  obtain ⟨h1, h2⟩ := hd
  subst h2
  intro h H locs ls hl hP hD hS hH
  refine W.objInit h.1 h.2.1 h.2.2.2.2.2.1 (h.2.2.2.2.2.2.1 _ hw) (h.2.2.2.2.2.2.1 _ wOb.1) (h.2.2.2.2.2.2.1 _ wOb.2) rfl (hl.1.trans h.2.2.1.symm) rfl h1 hR.1 (by show 2 * 0 + _ + 12 ≤ _; rw [cat_S]; omega) (kk h H locs ls hl hP hD hS hH)
/-! contracts -/
def rmB (d mc ms : Nat) : Room := { frames := d, cells := mc, slots := ms, locals := 64 * d }
def PCg (D : va_G) (cy : Nat → ClassId) (ad : Nat → Nat) (bs na : Nat) (Lr : RL9) (st : St) (B : State → Prop) (as : List Value) : Array Value → State → Prop :=
  va_Pc (as.map (cv ad)) (fun U => Hb ad bs na Lr st U.heap ∧ va_P D vwCl (gwr cy ad na Lr st) U.heap ∧ va_K D vwCl (tyl cy) U ∧ va_D (fun q => bs ≤ q) (gwr cy ad na Lr st) ∧ EX ad (fun q => bs ≤ q) U U.heap ∧ B U)
def QCg (D : va_G) (cy : Nat → ClassId) (ad : Nat → Nat) (bs na : Nat) (Lr : RL9) (st : St) (v : Option Value) : Array Value → State → Outcome → State → Prop := fun _ s0 o t =>
  (o = .returned (v.map (cv ad)) ∧ Hb ad bs na Lr st t.heap ∧ va_P D vwCl (gwr cy ad na Lr st) t.heap ∧ va_K D vwCl (tyl cy) t ∧ va_D (fun q => bs ≤ q) (gwr cy ad na Lr st)) ∧ va_F (fun q => bs ≤ q) s0 t
def MB (l : Launch) (D : va_G) (cy : Nat → ClassId) (ad : Nat → Nat) (bs d mc ms : Nat) (Y : MY) (B : State → Prop) (as : List Value) (na : Nat) (Lr : RL9) (st : St) (v : Option Value) (na2 : Nat) (Lr2 : RL9) (st2 : St) : Prop :=
  Met l Y.1 (wsY Y) (rmB d mc ms) (PCg D cy ad bs na Lr st B as) (QCg D cy ad bs na2 Lr2 st2 v) mc ms (fun q => bs ≤ q)
theorem MB.ofG {d mc ms : Nat} {Y : MY} {B : State → Prop} {as : List Value} {v : Option Value} {na2 : Nat} (L : List (Option Value)) (hy : plainName Y.1.cls = true) (hn : (li as).length ≤ Y.2.2.1) (hL : li as ++ List.replicate (Y.2.2.1 - (li as).length) none = L)
    (k : ∀ (p : Program) (e : Env) (s : State) (m : MethodId) (args : Array Value) (below : List Frame) (meth : Method) (c : Code), meth.name = Y.1.name → B s → GB p l e (rmB d mc ms) s m args below meth c D cy ad bs (Y.2.1, Y.1.cls, Y.2.2.1, Y.2.2.2) (MQ below (QCg D cy ad bs na2 Lr2 st2 v) args s mc ms (fun q => bs ≤ q)) 0 0 na Lr 0 L [] st) : MB l D cy ad bs d mc ms Y B as na Lr st v na2 Lr2 st2 := by
  refine Met.ofW (cc := Y.2.1) (maxL := Y.2.2.1) (ret := Y.2.2.2) hy rfl ?_
  intro p e s m args below meth c s₁ B9 hml hv
  obtain ⟨rfl, hH, hP, hK, hD, hE, hB⟩ := hv
  have hl := lv_entry (as.map (cv ad)) (n := Y.2.2.1) (by rw [li_len]; exact hn)
  rw [lg_entry_eq]
  refine k p e s m _ below meth c (name_of_methodNamed B9.named B9.method).1 hB ⟨B9.exec, B9.bytes, hml, B9.returns, B9.notSynchronized, findClass_of_methodNamed B9.named, fun w hw => atoms_spec (ws := wsY Y) B9.pre w (List.mem_cons_of_mem _ hw), hK, fun q h => by have := hH.1; show bs ≤ q; omega, hE⟩ s.heap [] _ ?_ hP hD va_S.rf hH
  rw [← hL, li_pv]
  exact hl
theorem b_vret {d mc ms : Nat} (hr : I.2.2.2 = none) (hc : kc ≤ mc) (hs : ks ≤ ms) (hd : decode I.1 pc = .ok (.return_, 1)) : GB p l e R s m args below meth c D cy ad bs I (MQ below (QCg D cy ad bs na Lr st none) args s mc ms (fun q => bs ≤ q)) kc ks na Lr pc L [] st :=
  fun h H locs ls hl hP hD hS hH => W.widen hc hs (W.vret h.1 h.2.1 (h.2.2.2.1.trans hr) (fun t ht hW => ⟨⟨rfl, by rw [ht]; exact hH, by rw [ht]; exact hP, va_K.moved hW.alike h.2.2.2.2.2.2.2.1, hD⟩, hS.F ht⟩) hS.2.2 hd h.2.2.2.2.1)
theorem b_iret {mc ms : Nat} {x : Int32} (hr : I.2.2.2 = some .int) (hc : kc ≤ mc) (hs : ks ≤ ms) (hd : decode I.1 pc = .ok (.ireturn, 1)) : GB p l e R s m args below meth c D cy ad bs I (MQ below (QCg D cy ad bs na Lr st (some (.int x))) args s mc ms (fun q => bs ≤ q)) kc ks na Lr pc L [.int x] st :=
  fun h H locs ls hl hP hD hS hH => W.widen hc hs (W.iret (v := x) h.1 h.2.1 (h.2.2.2.1.trans hr) (fun t ht hW => ⟨⟨rfl, by rw [ht]; exact hH, by rw [ht]; exact hP, va_K.moved hW.alike h.2.2.2.2.2.2.2.1, hD⟩, hS.F ht⟩) hS.2.2 hd h.2.2.2.2.1)
theorem b_lret {mc ms : Nat} {x : Int64} (hr : I.2.2.2 = some .long) (hc : kc ≤ mc) (hs : ks ≤ ms) (hd : decode I.1 pc = .ok (.lreturn, 1)) : GB p l e R s m args below meth c D cy ad bs I (MQ below (QCg D cy ad bs na Lr st (some (.long x))) args s mc ms (fun q => bs ≤ q)) kc ks na Lr pc L [.long x] st :=
  fun h H locs ls hl hP hD hS hH => W.widen hc hs (W.lret (v := x) h.1 h.2.1 (h.2.2.2.1.trans hr) (fun t ht hW => ⟨⟨rfl, by rw [ht]; exact hH, by rw [ht]; exact hP, va_K.moved hW.alike h.2.2.2.2.2.2.2.1, hD⟩, hS.F ht⟩) hS.2.2 hd h.2.2.2.2.1)
theorem pcg_blind {B : State → Prop} {as : List Value} (hb : ∀ (a : Array Value) (U : State) (g : JFrame) (mk : MethodId), B U → B (U.calling g mk a)) : FrameBlind (PCg D cy ad bs na Lr st B as) := fun a U g mk q => by
  obtain ⟨q0, q1, qP, qK, qD, qE, qB⟩ := q
  exact ⟨q0, q1, qP, va_K.moved (u := U) (U := U.calling g mk a) (Vm.Alike.refl U.vm) qK, qD, EX.same (s := U) (U := U.calling g mk a) qE rfl, hb a U g mk qB⟩
theorem pcg_at {H : Heap} {locs : List Loc} {as : List Value} {B : State → Prop} (h : GH p s m args meth c D cy ad (fun q => bs ≤ q) I) (hH : Hb ad bs na Lr st H) (hP : va_P D vwCl (gwr cy ad na Lr st) H) (hD : va_D (fun q => bs ≤ q) (gwr cy ad na Lr st)) (hS : va_S (fun q => bs ≤ q) s.heap H locs) (hB : ∀ U : State, U.heap = H → s.WarmedH U.vm → B U) : ∀ U : State, U.heap = H → s.WarmedH U.vm → PCg D cy ad bs na Lr st B as (as.map (cv ad)).toArray U := fun U hU hW =>
  ⟨rfl, by rw [hU]; exact hH, by rw [hU]; exact hP, va_K.moved hW.alike h.2.2.2.2.2.2.2.1, hD, by rw [hU]; exact h.2.2.2.2.2.2.2.2.2.warm hW hS.2.1 (fun q hq => hq), hB U hU hW⟩
theorem run_B {H : Heap} {locs : List Loc} {cells slots mc ms na2 : Nat} {ls : Array Slot} {rest st0 : List Value} {a : Array Value} {v : Option Value} (hr : va_Run p l e R s m args below meth c H locs cells slots mc ms (F0 m pc ls st0) rest (QCg D cy ad bs na2 Lr2 st2 v a) (fun q => bs ≤ q)) (hS : va_S (fun q => bs ≤ q) s.heap H locs)
    (kk : ∀ (H1 : Heap) (locs1 : List Loc), Hb ad bs na2 Lr2 st2 H1 → va_P D vwCl (gwr cy ad na2 Lr2 st2) H1 → va_D (fun q => bs ≤ q) (gwr cy ad na2 Lr2 st2) → va_S (fun q => bs ≤ q) s.heap H1 locs1 → W p l e R s m args below meth c H1 locs1 (cells + mc) (slots + ms) Q (F0 m (pc + 3) ls ((v.map (cv ad)).toList ++ rest))) : W p l e R s m args below meth c H locs cells slots Q (F0 m pc ls st0) := by
  intro T hT X
  obtain ⟨v9, st₀, t, T', L9, h0, X', hL, e1, e2, ⟨⟨hv, hHu, hPu, -, hDu⟩, hz, hk⟩, st9⟩ := hr T hT X
  cases hv
  rw [h0] at hz hk
  obtain ⟨t2, a1, b1⟩ := kk T'.heap (locs ++ L9) (by rw [e1]; exact hHu) (by rw [e1]; exact hPu) hDu
    ⟨Nat.le_trans hS.1 (by rw [e1]; exact hz), fun q h1 h2 => by rw [e1, hk q (Nat.lt_of_lt_of_le h1 hS.1) h2]; exact hS.2.1 q h1 h2, fun q hq => by
      rcases List.mem_append.mp hq with h | h
      · exact hS.2.2 q h
      · exact hL q h⟩ T' rfl X'
  exact ⟨t2, st9 t2 a1, b1⟩
theorem cbB {x n9 d mc ms : Nat} {Y : MY} (h : CB I.2.1 x Y n9) (ht : ∀ w ∈ wsA, w.before args s = true) (hR : d + 1 ≤ R.frames ∧ 64 * (d + 1) ≤ R.locals) : CallB R s args I.2.1 x Y.1 Y.2.1 Y.2.2.1 Y.2.2.2 (wsY Y) (rmB d mc ms) mc ms n9 :=
  callB_of n9 ht (good_Y h) rfl rfl rfl (ht _ h.2.1) (ht _ h.1) h.2.2.2.1 ⟨hR.1, by show 8 + (Y.2.2.1 + 11) + 64 * d ≤ R.locals; have := h.2.2.2.2; omega⟩
/-- a constructor is called -/
theorem b_callI {x d k mc ms na2 n9 : Nat} {Y : MY} {as S0 : List Value} {B : State → Prop} (hM : MB l D cy ad bs d mc ms Y B (.ref k :: as) na Lr st none na2 Lr2 st2) (hw : CB I.2.1 x Y n9 ∧ Cond.instanceMethod Y.1 ∈ wsA) (hy : Y.1.name = "<init>" ∧ Y.2.2.2 = none) (hd : DD I.1 pc (.invokespecial x) 3 n) (hR : d + 1 ≤ R.frames ∧ 64 * (d + 1) ≤ R.locals) (hcs : kc + mc ≤ R.cells ∧ ks + ms ≤ R.slots) (hn : as.length = n9) (hs : S0 = as.reverse ++ .ref k :: S) (hc : (S.map fun v => v.category).sum ≤ 8) (hb : ∀ (a : Array Value) (U : State) (g : JFrame) (mk : MethodId), B U → B (U.calling g mk a)) (hB : ∀ (U : State) (H : Heap) (locs : List Loc), va_S (fun q => bs ≤ q) s.heap H locs → U.heap = H → s.WarmedH U.vm → B U)
    (kk : GB p l e R s m args below meth c D cy ad bs I Q (kc + mc) (ks + ms) na2 Lr2 n L S st2) : GB p l e R s m args below meth c D cy ad bs I Q kc ks na Lr pc L S0 st := by
  obtain ⟨h1, h2⟩ := hd
  subst h2
  subst hs
  intro h H locs ls hl hP hD hS hH
  refine run_B (rest := S.map (cv ad)) (v := none) (va_runI (As := as.map (cv ad)) (b := ad k) (Ts := wsA) ⟨h.1, h.2.1, h.2.2.1, h.2.2.2.2.2.1, h.2.2.2.2.2.2.1⟩ hM ⟨by rw [← hy.2]; exact cbB hw.1 h.2.2.2.2.2.2.1 hR, hy.1, h.2.2.2.2.2.2.1 _ hw.2⟩ ⟨pcg_blind hb, pcg_at h hH hP hD hS (fun U hU hW => hB U H locs hS hU hW)⟩ rfl (by rw [List.length_map]; exact hn) hl.1 (by show (as.reverse ++ .ref k :: S).map (cv ad) = _; rw [List.map_append, List.map_reverse]; rfl) (by show 2 * 0 + _ ≤ 8; rw [cat_S]; omega) h1 hcs) hS (fun H1 locs1 hH1 hP1 hD1 hS1 => ?_)
  exact kk h H1 locs1 ls hl hP1 hD1 hS1 hH1
/-- a static method is called -/
theorem b_callS {x d mc ms na2 n9 : Nat} {Y : MY} {as S0 : List Value} {B : State → Prop} {v : Option Value} (hM : MB l D cy ad bs d mc ms Y B as na Lr st v na2 Lr2 st2) (hw : CS I.2.1 x Y n9) (hd : DD I.1 pc (.invokestatic x) 3 n) (hR : d + 1 ≤ R.frames ∧ 64 * (d + 1) ≤ R.locals) (hcs : kc + mc ≤ R.cells ∧ ks + ms ≤ R.slots) (hn : as.length = n9) (hs : S0 = as.reverse ++ S) (hc : (S.map fun v => v.category).sum ≤ 8) (hb : ∀ (a : Array Value) (U : State) (g : JFrame) (mk : MethodId), B U → B (U.calling g mk a)) (hB : ∀ (U : State) (H : Heap) (locs : List Loc), va_S (fun q => bs ≤ q) s.heap H locs → U.heap = H → s.WarmedH U.vm → B U)
    (kk : GB p l e R s m args below meth c D cy ad bs I Q (kc + mc) (ks + ms) na2 Lr2 n L (v.toList ++ S) st2) : GB p l e R s m args below meth c D cy ad bs I Q kc ks na Lr pc L S0 st := by
  obtain ⟨h1, h2⟩ := hd
  subst h2
  subst hs
  intro h H locs ls hl hP hD hS hH
  refine run_B (rest := S.map (cv ad)) (v := v) (va_runS (As := as.map (cv ad)) (Ts := wsA) ⟨h.1, h.2.1, h.2.2.1, h.2.2.2.2.2.1, h.2.2.2.2.2.2.1⟩ hM ⟨cbB hw.1 h.2.2.2.2.2.2.1 hR, h.2.2.2.2.2.2.1 _ hw.2⟩ ⟨pcg_blind hb, pcg_at h hH hP hD hS (fun U hU hW => hB U H locs hS hU hW)⟩ rfl (by rw [List.length_map]; exact hn) hl.1 (by show (as.reverse ++ S).map (cv ad) = _; rw [List.map_append, List.map_reverse]) (by show 2 * 0 + _ ≤ 8; rw [cat_S]; omega) h1 hcs) hS (fun H1 locs1 hH1 hP1 hD1 hS1 => ?_)
  rw [stk_v]
  exact kk h H1 locs1 ls hl hP1 hD1 hS1 hH1
end BS
