/-! the rows of the growing world (after the kit's rows, with the heap's size) -/
section BR
variable {p : Program} {l : Launch} {e : Env} {R : Room} {s : State} {m : MethodId} {args : Array Value} {below : List Frame} {meth : Method} {c : Code} {D : va_G} {cy : Nat → ClassId} {ad : Nat → Nat} {bs : Nat} {I : MI} {Q : State → Prop} {kc ks na : Nat} {Lr Lr2 : RL9} {pc n : Nat} {L : List (Option Value)} {S : List Value} {st st2 : St}
theorem b_getI {k j x ci : Nat} (hk : kd k = ci) (hN : k < N0) (hp : pos k < na) (hc : ci < 12) (hj : j < nFc ci) (ht : isI (tyC ci j) = true) (hw : Cond.fieldLink I.2.1 x (RC ci) (TC ci j).2.1 (TC ci j).2.2.1 ∈ wsA) (hd : DD I.1 pc (.getfield x) 3 n) (kk : GB p l e R s m args below meth c D cy ad bs I Q kc ks na Lr n L (.int (st.1 k j) :: S) st) : GB p l e R s m args below meth c D cy ad bs I Q kc ks na Lr pc L (.ref k :: S) st := by
  obtain ⟨h1, h2⟩ := hd
  subst h2
  subst hk
  intro h H locs ls hl hP hD hS hH
  exact va_get (D := D) (v := cv ad (.int (st.1 k j))) h.1 h.2.1 h.2.2.2.2.2.2.1 (lays_in _ hc) h.2.2.2.2.2.1 h.2.2.2.2.2.2.2.1 hP (pos k) ((gw_get hN hp).trans (by rw [ceR_obj hc])) (cl_at _ hc) j hj (h.2.2.2.2.2.2.1 _ hw) (by rw [decl_ok _ hc j hj]; exact hsame_r _ _ _) (by rw [fsR_get hj, fvR_i ht]; rfl) h1 (kk h H locs ls hl hP hD hS hH)
theorem b_getR {k j x ci : Nat} {z : Nat} (hk : kd k = ci) (hN : k < N0) (hp : pos k < na) (hc : ci < 12) (hj : j < nFc ci) (ht : isR (tyC ci j) = true) (hr : rr Lr k j = some z) (hw : Cond.fieldLink I.2.1 x (RC ci) (TC ci j).2.1 (TC ci j).2.2.1 ∈ wsA) (hd : DD I.1 pc (.getfield x) 3 n) (kk : GB p l e R s m args below meth c D cy ad bs I Q kc ks na Lr n L (.ref z :: S) st) : GB p l e R s m args below meth c D cy ad bs I Q kc ks na Lr pc L (.ref k :: S) st := by
  obtain ⟨h1, h2⟩ := hd
  subst h2
  subst hk
  intro h H locs ls hl hP hD hS hH
  exact va_get (D := D) (v := cv ad (.ref z)) h.1 h.2.1 h.2.2.2.2.2.2.1 (lays_in _ hc) h.2.2.2.2.2.1 h.2.2.2.2.2.2.2.1 hP (pos k) ((gw_get hN hp).trans (by rw [ceR_obj hc])) (cl_at _ hc) j hj (h.2.2.2.2.2.2.1 _ hw) (by rw [decl_ok _ hc j hj]; exact hsame_r _ _ _) (by rw [fsR_get hj, fvR_r ht, hr]; rfl) h1 (kk h H locs ls hl hP hD hS hH)
theorem b_alen {k : Nat} {v : Int32} (hk : 12 ≤ kd k) (hk2 : kd k < 18) (hN : k < N0) (hp : pos k < na) (hv : Int32.ofNat (ln k) = v) (hd : DD I.1 pc .arraylength 1 n) (kk : GB p l e R s m args below meth c D cy ad bs I Q kc ks na Lr n L (.int v :: S) st) : GB p l e R s m args below meth c D cy ad bs I Q kc ks na Lr pc L (.ref k :: S) st := by
  obtain ⟨h1, h2⟩ := hd
  subst h2
  intro h H locs ls hl hP hD hS hH
  have hc := (gw_get (cy := cy) (ad := ad) (Lr := Lr) (st := st) hN hp).trans (by rw [ceR_arr (by omega)])
  have ht : ∃ ty, (tyl cy)[kd k - 12]? = some (cy (kd k), ty) := by
    have h9 : kd k = 12 ∨ kd k = 13 ∨ kd k = 14 ∨ kd k = 15 ∨ kd k = 16 ∨ kd k = 17 := by omega
    rcases h9 with h9 | h9 | h9 | h9 | h9 | h9 <;> rw [h9] <;> exact ⟨_, rfl⟩
  obtain ⟨ty, ht⟩ := ht
  exact va_alen h.1 h.2.1 h.2.2.2.2.2.2.2.1 hP (pos k) (kd k - 12) hc ht hv h1 (kk h H locs ls hl hP hD hS hH)
/-- a field is set, final or not -/
theorem b_putV {k j x ci : Nat} {v : Value} (hk : kd k = ci) (hN : k < N0) (hp : pos k < na) (hc : ci < 12) (hj : j < nFc ci) (hin2 : meth.name = "<init>") (hdecl : RC ci = I.2.1) (hw : Cond.fieldLink I.2.1 x (RC ci) (TC ci j).2.1 (TC ci j).2.2.1 ∈ wsA) (hn : narrow (tyC ci j) v = v) (hfit : fits (tyC ci j) v = true)
    (he : (fsR Lr ad st k).set j v = fsR Lr2 ad st2 k) (ho : ∀ i, i ≠ k → ceR Lr2 cy ad st2 i = ceR Lr cy ad st i) (hu : un na Lr st → un na Lr2 st2) (hd : DD I.1 pc (.putfield x) 3 n)
    (kk : GB p l e R s m args below meth c D cy ad bs I Q kc ks na Lr2 n L S st2) : GH p s m args meth c D cy ad (fun q => bs ≤ q) I → ∀ (H : Heap) (locs : List Loc) (ls : Array Slot), lv_has ls I.2.2.1 (pv ad 0 L) → va_P D vwCl (gwr cy ad na Lr st) H → va_D (fun q => bs ≤ q) (gwr cy ad na Lr st) → va_S (fun q => bs ≤ q) s.heap H locs → Hb ad bs na Lr st H →
    W p l e R s m args below meth c H locs kc ks Q (F0 m pc ls (v :: .ref (ad k) :: S.map (cv ad))) := by
  obtain ⟨h1, h2⟩ := hd
  subst h2
  subst hk
  intro h H locs ls hl hP hD hS0 hH
  have he9 := (gw_get (cy := cy) (ad := ad) (Lr := Lr) (st := st) hN hp).trans (by rw [ceR_obj hc])
  have hts := h.2.2.2.2.2.2.1
  have hK := h.2.2.2.2.2.2.2.1
  have hcl := cl_at (kd k) hc
  have hap := va_apart (own := I.2.1) hts (lays_in _ hc) (tyC (kd k)) (ty_ok _ hc) (nm_ok _ hc) hK hcl
  obtain ⟨r, hr1, cell, q1, q2, q3, q4⟩ := hP (pos k) _ he9
  have hr : r = (RC (kd k), TC (kd k), nFc (kd k)) := Option.some.inj (hr1.symm.trans hcl)
  subst hr
  obtain ⟨hS, hfc, kC, hkC, hkind⟩ := hK.1 (kd k) _ hcl
  obtain ⟨cf, kf, fi, f, hi, hsl⟩ := hS j hj
  have hlay := hts _ (lays_in _ hc _ (u_in_lay hj))
  have hst := (u_facts hfc hkC (u_lays hts (lays_in _ hc) hj) hi).1
  have hl9 : j < (fsR Lr ad st k).length := by simp [fsR]; exact hj
  have hsame : ∀ x, s.fieldFound? (TC (kd k) j).1 (TC (kd k) j).2.1 (TC (kd k) j).2.2.1 = some x → s.fieldFound? (RC (kd k)) (TC (kd k) j).2.1 (TC (kd k) j).2.2.1 = some x := by rw [decl_ok _ hc j hj]; exact hsame_r _ _ _
  have fin : ∀ H' : Heap, H'[ad k]? = some (cell.setSlot (D.2 (kd k) j) v) → H'.size = H.size → (∀ q, q ≠ ad k → H'[q]? = H[q]?) → W p l e R s m args below meth c H' (locs ++ [⟨ad k, D.2 (kd k) j⟩]) kc ks Q (F0 m (pc + 3) ls (S.map (cv ad))) := by
    intro H' e1 e2 e3
    have hP2 := hP.set hD he9 (e := .inr (kd k, (fsR Lr ad st k).set j v)) ⟨_, hcl, t_OB.to (V := updV (vp_V (fsR Lr ad st k)) j v) ⟨_, e1, q2, q3, t_set q4 hap hj v⟩ (fun i _ => vp_updV_set hl9 v i)⟩ e3
    have hD2 := hD.set he9 (e := .inr (kd k, (fsR Lr ad st k).set j v))
    have eG : (gwr cy ad na Lr st).set (pos k) (ad k, .inr (kd k, (fsR Lr ad st k).set j v)) = gwr cy ad na Lr2 st2 := gw_set hN hp (by rw [ceR_obj hc, he]) ho
    rw [eG] at hP2 hD2
    exact kk h H' _ ls hl hP2 hD2 (hS0.put e2 e3 (hD.2 (pos k) _ he9)) ⟨by rw [e2]; exact hH.1, hH.2.1, hu hH.2.2⟩
  unfold u_lay at hlay
  by_cases hfin : (TC (kd k) j).2.2.2 = true
  · rw [if_pos hfin] at hlay
    have hcf : m.cls = cf := by
      obtain ⟨_, _, c', _, _, _, -, -, hf', -, -, -, hown2, -⟩ := Cond.laysFinal_spec hlay
      have e1 : c' = cf := by have := hi.symm.trans hf'; simp at this; exact this.1.symm
      rw [decl_ok _ hc j hj, hdecl] at hown2
      rw [← e1]; exact Option.some.inj (h.2.2.2.2.2.1.symm.trans hown2)
    have h6 := u_fits hfc hkC hkind (Or.inr hlay) hi (ty_ok _ hc j hj) hn hfit
    refine W.putFinK h.1 h.2.1 h.2.2.2.2.2.1 (hts _ hw) (hsame _ hi) hst hcf hin2 (by rw [q2]; exact h6) q1 q3 (by rw [hsl]; exact k2_hasslot (q4 j hj)) rfl rfl h1 fun H' e1 e2 e3 => ?_
    rw [hsl] at e1 ⊢
    exact fin H' e1 e2 e3
  · rw [if_neg hfin] at hlay
    have h6 := u_store hfc hkC hkind hlay hi (ty_ok _ hc j hj) hn hfit
    refine W.putK h.1 h.2.1 (f := f) ⟨h.2.2.2.2.2.1, hts _ hw, ⟨_, _, _, hsame _ hi⟩, hst⟩ (by rw [q2]; exact h6) q1 q3 (by rw [hsl]; exact k2_hasslot (q4 j hj)) rfl rfl h1 fun H' e1 e2 e3 => ?_
    rw [hsl] at e1 ⊢
    exact fin H' e1 e2 e3
theorem b_putI {k j x ci : Nat} {v : Int32} (hk : kd k = ci) (hN : k < N0) (hp : pos k < na) (hc : ci < 12) (hj : j < nFc ci) (ht : tyC ci j = .int ∨ (tyC ci j = .boolean ∧ (v = 0 ∨ v = 1))) (hin2 : meth.name = "<init>") (hdecl : RC ci = I.2.1) (hw : Cond.fieldLink I.2.1 x (RC ci) (TC ci j).2.1 (TC ci j).2.2.1 ∈ wsA) (hd : DD I.1 pc (.putfield x) 3 n)
    (kk : GB p l e R s m args below meth c D cy ad bs I Q kc ks na Lr n L S (sI st k j v)) : GB p l e R s m args below meth c D cy ad bs I Q kc ks na Lr pc L (.int v :: .ref k :: S) st := by
  have hi : isI (tyC ci j) = true := by rcases ht with h | ⟨h, -⟩ <;> rw [h] <;> rfl
  refine b_putV (Lr2 := Lr) (st2 := sI st k j v) hk hN hp hc hj hin2 hdecl hw ?_ ?_ ?_ (fun i hi => ceR_other (sI_row hi) rfl rfl) (fun h => h.put hp (fun a ha => sI_row ha) (fun _ _ => rfl)) hd kk
  · rcases ht with h | ⟨h, rfl | rfl⟩ <;> rw [h] <;> rfl
  · rcases ht with h | ⟨h, rfl | rfl⟩ <;> rw [h] <;> rfl
  · subst hk
    exact fsR_set (by rw [fvR_i hi]; simp [sI_1, cv]) (fun i hi => fvR_other _ (by rw [sI_1, if_neg (fun q => hi q.2)]) rfl rfl) hj
theorem b_putR {k j x ci z : Nat} (hk : kd k = ci) (hN : k < N0) (hp : pos k < na) (hc : ci < 12) (hj : j < nFc ci) (ht : isR (tyC ci j) = true) (hr : r0 k j = some z) (hin2 : meth.name = "<init>") (hdecl : RC ci = I.2.1) (hw : Cond.fieldLink I.2.1 x (RC ci) (TC ci j).2.1 (TC ci j).2.2.1 ∈ wsA) (hd : DD I.1 pc (.putfield x) 3 n)
    (kk : GB p l e R s m args below meth c D cy ad bs I Q kc ks na ((k, j) :: Lr) n L S st) : GB p l e R s m args below meth c D cy ad bs I Q kc ks na Lr pc L (.ref z :: .ref k :: S) st := by
  refine b_putV (v := .ref (ad z)) (Lr2 := (k, j) :: Lr) (st2 := st) hk hN hp hc hj hin2 hdecl hw ?_ ?_ ?_ (fun i hi => ceR_other rfl rfl (rr_row hi)) (fun h => h.ref hp) hd kk
  · generalize tyC ci j = ty at ht
    cases ty <;> first | rfl | cases ht
  · generalize tyC ci j = ty at ht
    cases ty <;> first | rfl | cases ht
  · subst hk
    exact fsR_set (by rw [fvR_r ht, rr_cons, if_pos ⟨rfl, rfl⟩, hr]; rfl) (fun i hi => fvR_other _ rfl rfl (by rw [rr_cons, if_neg (fun q => hi q.2)])) hj
/-- a new object -/
theorem b_new {k x ci : Nat} (hk : kd k = ci) (hc : ci < 12) (ho : ord[na]? = some k) (hw : Cond.classLink I.2.1 x (RC ci) ∈ wsA ∧ Cond.instantiable (RC ci) (nFc ci) ∈ wsA ∧ Cond.initialized (RC ci) ∈ wsA) (hr : kc + 1 ≤ R.cells ∧ ks + nFc ci ≤ R.slots) (hd : DD I.1 pc (.new x) 3 n)
    (kk : GB p l e R s m args below meth c D cy ad bs I Q (kc + 1) (ks + nFc ci) (na + 1) Lr n L (.ref k :: S) st) : GB p l e R s m args below meth c D cy ad bs I Q kc ks na Lr pc L S st := by
  obtain ⟨h1, h2⟩ := hd
  subst h2
  subst hk
  intro h H locs ls hl hP hD hS hH
  have hts := h.2.2.2.2.2.2.1
  have hKn := h.2.2.2.2.2.2.2.1.1 (kd k) _ (cl_at _ hc)
  obtain ⟨hN, hpk⟩ := ord_lt ho
  have hadk : ad k = H.size := by rw [hH.2.1 k hN, hpk, hH.1]
  obtain ⟨z1, z2, z3⟩ := hH.2.2 k hN (by omega)
  have hfs : ∀ j, j < nFc (kd k) → defaultValue (tyC (kd k) j) = vp_V (fsR Lr ad st k) j := by
    intro j hj
    have e1 : vp_V (fsR Lr ad st k) j = fvR Lr ad st k (tyC (kd k) j) j := by
      unfold vp_V
      rw [List.getD_eq_getElem?_getD, fsR_get hj]
      rfl
    rw [e1]
    have hty : ∀ c, c < 12 → ∀ j, j < nFc c → (isI (tyC c j) || isR (tyC c j) || decide (tyC c j = .long)) = true ∧ (isI (tyC c j) = true → defaultValue (tyC c j) = .int 0) := by decide +kernel
    obtain ⟨t1, t2⟩ := hty _ hc j hj
    by_cases q1 : isI (tyC (kd k) j) = true
    · rw [fvR_i q1, z1 j, t2 q1]
    by_cases q2 : isR (tyC (kd k) j) = true
    · rw [fvR_r q2, z3 j]
      generalize tyC (kd k) j = ty at q2
      cases ty <;> first | rfl | cases q2
    · have q3 : tyC (kd k) j = .long := by
        simp only [Bool.not_eq_true] at q1 q2
        rw [q1, q2] at t1
        simpa using t1
      rw [q3]
      show defaultValue .long = .long (st.2 k j)
      rw [z2 j]
      rfl
  refine W.newcK h.1 h.2.1 h.2.2.2.2.2.1 (hts _ hw.1) (hts _ hw.2.1) (hts _ hw.2.2) rfl h1 hr.1 hr.2 hKn.2.1 rfl fun H1 kC hkC e1 z9 o1 => ?_
  have hk9 : ∀ (i : Nat) (x : Nat × va_E), (gwr cy ad na Lr st)[i]? = some x → H1[x.1]? = H[x.1]? := fun i x hx => o1 x.1 ((hP i x hx).lt)
  have hP2 : va_P D vwCl (gwr cy ad na Lr st ++ [(H.size, .inr (kd k, fsR Lr ad st k))]) H1 := (hP.kept hk9).app (fun i x hx => by
    have hz : i < 1 := (List.getElem?_eq_some_iff.mp hx).1
    rw [show i = 0 by omega] at hx
    cases hx
    exact ⟨_, cl_at _ hc, (u_born (tyC (kd k)) hts (lays_in _ hc) hKn hkC e1 (ty_ok _ hc)).to hfs⟩)
  have hD2 : va_D (fun q => bs ≤ q) (gwr cy ad na Lr st ++ [(H.size, .inr (kd k, fsR Lr ad st k))]) := hD.push hP rfl (by show bs ≤ H.size; rw [hH.1]; omega)
  rw [← hadk, ← ceR_obj hc, gw_push ho] at hP2 hD2
  show W p l e R s m args below meth c H1 locs (kc + 1) (ks + nFc (kd k)) Q (F0 m (pc + 3) ls (.ref H.size :: S.map (cv ad)))
  rw [← hadk]
  exact kk h H1 locs ls hl hP2 hD2 ⟨Nat.le_trans hS.1 (by omega), fun x h1 h2 => (o1 x (Nat.lt_of_lt_of_le h1 hS.1)).trans (hS.2.1 x h1 h2), hS.2.2⟩ ⟨by rw [z9, hH.1]; omega, hH.2.1, hH.2.2.up⟩
/-- a new array of numbers -/
def tyN (c : Nat) : FieldType := if c = 12 then .byte else if c = 13 then .int else if c = 14 then .long else .boolean
theorem b_newa {k N : Nat} {v : Int32} {at9 : ArrayType} (hk : kd k = 12 ∨ kd k = 13 ∨ kd k = 14 ∨ kd k = 15) (hty : newarray.typeOf at9 = tyN (kd k)) (hln : ln k = N) (ho : ord[na]? = some k) (hw : Cond.arrayClass (tyN (kd k)) ∈ wsA) (hv : ¬ v < 0 ∧ v.toNatClampNeg = N) (hN4 : N ≤ 4000) (hr : kc + 1 ≤ R.cells ∧ ks + N ≤ R.slots) (hd : DD I.1 pc (.newarray at9) 2 n)
    (kk : GB p l e R s m args below meth c D cy ad bs I Q (kc + 1) (ks + N) (na + 1) Lr n L (.ref k :: S) st) : GB p l e R s m args below meth c D cy ad bs I Q kc ks na Lr pc L (.int v :: S) st := by
  obtain ⟨h1, h2⟩ := hd
  subst h2
  intro h H locs ls hl hP hD hS hH
  have hts := h.2.2.2.2.2.2.1
  obtain ⟨hN, hpk⟩ := ord_lt ho
  have hadk : ad k = H.size := by rw [hH.2.1 k hN, hpk, hH.1]
  obtain ⟨z1, z2, z3⟩ := hH.2.2 k hN (by omega)
  refine va_newaK h.1 h.2.1 (atype := at9) (by rw [hty]; exact hts _ hw) rfl h1 rfl hv.1 hv.2 ?_ hr.1 hr.2 rfl fun H1 cA e1 z9 o1 hAr hNm => ?_
  · rw [hty]
    have : componentBytes (tyN (kd k)) ≤ 8 := by rcases hk with q | q | q | q <;> rw [q] <;> decide
    calc N * componentBytes (tyN (kd k)) ≤ 4000 * 8 := Nat.mul_le_mul hN4 this
      _ ≤ 536870912 := by decide
  · rw [hty] at e1 hNm
    have hcy : cA = cy (kd k) := by
      rcases hk with q | q | q | q <;> rw [q] at hNm ⊢
      · exact Option.some.inj (hNm.symm.trans (h.2.2.2.2.2.2.2.1.2 0 _ rfl).2)
      · exact Option.some.inj (hNm.symm.trans (h.2.2.2.2.2.2.2.1.2 1 _ rfl).2)
      · exact Option.some.inj (hNm.symm.trans (h.2.2.2.2.2.2.2.1.2 2 _ rfl).2)
      · exact Option.some.inj (hNm.symm.trans (h.2.2.2.2.2.2.2.1.2 3 _ rfl).2)
    have hcell : H1[H.size]? = some (vp_cell (cy (kd k)) (ln k, paR Lr ad st k)) := by
      rw [e1, hcy, hln]
      rcases hk with q | q | q | q
      · rw [paR_i (Or.inl q), vp_cell_i, show st.1 k = fun _ => 0 from funext z1, q]; rfl
      · rw [paR_i (Or.inr (Or.inl q)), vp_cell_i, show st.1 k = fun _ => 0 from funext z1, q]; rfl
      · rw [paR_l q, vp_cell_l, show st.2 k = fun _ => 0 from funext z2, q]; rfl
      · rw [paR_i (Or.inr (Or.inr q)), vp_cell_i, show st.1 k = fun _ => 0 from funext z1, q]; rfl
    have hk9 : ∀ (i : Nat) (x : Nat × va_E), (gwr cy ad na Lr st)[i]? = some x → H1[x.1]? = H[x.1]? := fun i x hx => o1 x.1 ((hP i x hx).lt)
    have hP2 : va_P D vwCl (gwr cy ad na Lr st ++ [(H.size, .inl (cy (kd k), ln k, paR Lr ad st k))]) H1 := (hP.kept hk9).app (fun i x hx => by
      have hz : i < 1 := (List.getElem?_eq_some_iff.mp hx).1
      rw [show i = 0 by omega] at hx
      cases hx
      exact hcell)
    have hD2 : va_D (fun q => bs ≤ q) (gwr cy ad na Lr st ++ [(H.size, .inl (cy (kd k), ln k, paR Lr ad st k))]) := hD.push hP rfl (by show bs ≤ H.size; rw [hH.1]; omega)
    rw [← hadk, ← ceR_arr (by omega), gw_push ho] at hP2 hD2
    show W p l e R s m args below meth c H1 locs (kc + 1) (ks + N) Q (F0 m (pc + 2) ls (.ref H.size :: S.map (cv ad)))
    rw [← hadk]
    exact kk h H1 locs ls hl hP2 hD2 ⟨Nat.le_trans hS.1 (by omega), fun x h1 h2 => (o1 x (Nat.lt_of_lt_of_le h1 hS.1)).trans (hS.2.1 x h1 h2), hS.2.2⟩ ⟨by rw [z9, hH.1]; omega, hH.2.1, hH.2.2.up⟩
end BR
