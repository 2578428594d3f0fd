/-! THE MODEL PARSES: tells -/
theorem psF_mk {s : GS} (h : s.1 < 300) : psF s = .inr (s.1 + 1, s.2) := by unfold psF; rw [if_neg (by omega)]
theorem psF_eq {s s1 : GS} (h : psF s = .inr s1) : s1 = (s.1 + 1, s.2) ∧ s.1 < 300 := by
  unfold psF at h
  split at h
  · cases h
  · cases h
    exact ⟨rfl, by omega⟩
theorem psF_er2 {s s2 : GS} {e : Nat × Nat} (h : psF s = .inl e) (h1 : s2.1 = s.1) : psF s2 = .inl e := by
  unfold psF at h ⊢
  rw [h1]
  split at h
  · rename_i q; rw [if_pos q]; exact h
  · cases h
theorem tkF_er2 {K : Nat → Nat} {k : Nat} {s s2 : GS} {e : Nat × Nat} (h : tkF K k s = .inl e) (h1 : s2.1 = s.1) : tkF K k s2 = .inl e := by
  unfold tkF at h ⊢
  rw [h1]
  split at h
  · rename_i q; rw [if_pos q]; exact psF_er2 h h1
  · rename_i q; rw [if_neg q]; exact h
theorem tkF_mk {K : Nat → Nat} {k : Nat} {s s1 : GS} (h : tkF K k s = .inr s1) {s2 : GS} (h1 : s2.1 = s.1) : tkF K k s2 = .inr (s.1 + 1, s2.2) := by
  obtain ⟨q1, q2⟩ := tkF_ok h
  unfold tkF
  rw [if_pos (by rw [h1]; exact q1), psF_mk (by rw [h1]; exact (psF_eq q2).2), h1]
def skM (K P V W : Nat → Nat) (bs pg : Nat) (st : St) : Prop := tvM K P V W st ∧ (st.1 31 17 = nI bs ∧ 2 ≤ bs ∧ bs ≤ 13) ∧ st.1 31 20 = nI pg ∧ pg ≤ 3
def enOK (K V : Nat → Nat) (bs : Nat) (st : St) (tbs : List Nat) : Prop := ∀ k, k < tbs.length → ∀ j, j < 13 → j < mnyF K (tbs.getD k 0) → st.1 50 (13 * k + j) = nI (V (tbs.getD k 0 + 2 + 2 * j) % bs)
def ctM (pg : Nat) (st : St) (p : PM) (o : Nat) : Prop := st.1 39 pg = nI p.2.1 ∧ st.1 31 37 = nI p.2.2.1 ∧ st.1 31 32 = nI p.2.2.2.1.length ∧ st.1 31 38 = nI o
def TK (K P V W : Nat → Nat) (bs pg : Nat) (st : St) (s : GS) (gs : List GP) (C : List (Nat × Nat)) (TL : List TE) : Prop :=
  skM K P V W bs pg st ∧ (∃ Wt, exOK K st (s, 0, C, (pmF K P W bs s.2.2).2.2.2.2, Wt)) ∧ nsOK st (nmL W (pmF K P W bs s.2.2).1) ∧ ctM pg st (pmF K P W bs s.2.2) (n7 gs) ∧ teOK st TL ∧ enOK K V bs st (pmF K P W bs s.2.2).2.2.2.1 ∧ TKp K P V W bs s gs C TL
def tlFr (st u : St) : Prop := (∀ a, a ≠ 31 → a ≠ 39 → ¬ (47 ≤ a ∧ a ≤ 60) → u.1 a = st.1 a) ∧ (∀ j, ¬ (10 ≤ j ∧ j ≤ 15) → j ≠ 28 → j ≠ 32 → ¬ (36 ≤ j ∧ j ≤ 38) → j ≠ 44 → j ≠ 49 → u.1 31 j = st.1 31 j) ∧ (∀ a, a ≠ 46 → u.2 a = st.2 a) ∧ ∀ i, st.1 31 20 ≠ nI i → u.1 39 i = st.1 39 i
theorem tlFr.refl (st : St) : tlFr st st := ⟨fun _ _ _ _ => rfl, fun _ _ _ _ _ _ _ => rfl, fun _ _ => rfl, fun _ _ => rfl⟩
theorem tlFr.trans {a b c : St} (h1 : tlFr a b) (h2 : tlFr b c) : tlFr a c := ⟨fun k x y z => (h2.1 k x y z).trans (h1.1 k x y z), fun j x y z v w q => (h2.2.1 j x y z v w q).trans (h1.2.1 j x y z v w q), fun k x => (h2.2.2.1 k x).trans (h1.2.2.1 k x), fun i x => (h2.2.2.2 i (by rw [h1.2.1 20 (by decide) (by decide) (by decide) (by decide) (by decide) (by decide)]; exact x)).trans (h1.2.2.2 i x)⟩
theorem tl_ex {st u : St} (h : exFr st u) : tlFr st u := ⟨fun a x y z => h.1 a x (by omega) (by omega) (by omega) (by omega), fun j x y z v w q => h.2.1 j (by omega) w q, fun a _ => by rw [h.2.2], fun i _ => by rw [h.1 39 (by decide) (by decide) (by decide) (by decide) (by decide)]⟩
theorem tl_r (st : St) {k j : Nat} (x : Int32) (h : 47 ≤ k ∧ k ≤ 60) : tlFr st (sI st k j x) := ⟨fun a _ y z => sI_row (by omega), fun i _ _ _ _ _ _ => by rw [sI_row (by omega)], fun _ _ => rfl, fun i _ => by rw [sI_row (by omega)]⟩
theorem tl_39 (st : St) {j : Nat} (x : Int32) (h : st.1 31 20 = nI j) : tlFr st (sI st 39 j x) := ⟨fun a _ y z => sI_row y, fun i _ _ _ _ _ _ => by rw [sI_row (by decide)], fun _ _ => rfl, fun i q => by rw [sI_at, if_neg (fun e => q (by rw [e]; exact h))]⟩
theorem tl_f (st : St) {j : Nat} (x : Int32) (h : j = 28 ∨ j = 32 ∨ 36 ≤ j ∧ j ≤ 38) : tlFr st (sI st 31 j x) := ⟨fun a y _ _ => sI_row y, fun i _ _ _ _ _ _ => by rw [sI_1, if_neg (by omega)], fun _ _ => rfl, fun _ _ => by rw [sI_row (by decide)]⟩
theorem tl_kn (st : St) (n : Nat) (w : Int64) (s a : Int32) : tlFr st (knS st n w s a) := by
  unfold knS
  have h0 : tlFr st (sL st 46 n w) := ⟨fun _ _ _ _ => rfl, fun _ _ _ _ _ _ _ => rfl, fun b hb => sL_row hb, fun _ _ => rfl⟩
  exact (h0.trans (tl_r _ _ (by omega))).trans ((tl_r _ _ (by omega)).trans (tl_f _ _ (by omega)))
theorem tl_en (st : St) (n : Nat) (c w z : Int32) : tlFr st (enS st n c w z) := by
  unfold enS
  exact (((tl_r _ _ (by omega)).trans (tl_r _ _ (by omega))).trans (tl_r _ _ (by omega))).trans (tl_f _ _ (by omega))
theorem skM_fr {K P V W : Nat → Nat} {bs pg : Nat} {st u : St} (h : skM K P V W bs pg st) (hf : tlFr st u) : skM K P V W bs pg u := by
  obtain ⟨h1, h2, h3⟩ := h
  refine ⟨?_, ?_, ?_⟩
  · unfold tvM
    rw [hf.1 34 (by decide) (by decide) (by decide), hf.1 35 (by decide) (by decide) (by decide), hf.1 36 (by decide) (by decide) (by decide), hf.2.2.1 37 (by decide)]
    exact h1
  · rw [hf.2.1 17 (by decide) (by decide) (by decide) (by decide) (by decide) (by decide)]; exact h2
  · rw [hf.2.1 20 (by decide) (by decide) (by decide) (by decide) (by decide) (by decide)]; exact h3
theorem ns_ex {st u : St} {Nm : List MN} (h : nsOK st Nm) (hf : exFr st u) : nsOK u Nm := by
  unfold nsOK
  rw [hf.2.1 28 (by decide) (by decide) (by decide), hf.1 47 (by decide) (by decide) (by decide) (by decide) (by decide), hf.1 48 (by decide) (by decide) (by decide) (by decide) (by decide), hf.2.2]
  exact h
theorem ct_ex {pg : Nat} {st u : St} {p : PM} {o : Nat} (h : ctM pg st p o) (hf : exFr st u) : ctM pg u p o := by
  unfold ctM
  rw [hf.1 39 (by decide) (by decide) (by decide) (by decide) (by decide), hf.2.1 37 (by decide) (by decide) (by decide), hf.2.1 32 (by decide) (by decide) (by decide), hf.2.1 38 (by decide) (by decide) (by decide)]
  exact h
theorem te_ex {st u : St} {TL : List TE} (h : teOK st TL) (hf : exFr st u) : teOK u TL := by
  unfold teOK
  rw [hf.2.1 36 (by decide) (by decide) (by decide), hf.1 52 (by decide) (by decide) (by decide) (by decide) (by decide), hf.1 53 (by decide) (by decide) (by decide) (by decide) (by decide), hf.1 54 (by decide) (by decide) (by decide) (by decide) (by decide), hf.1 55 (by decide) (by decide) (by decide) (by decide) (by decide)]
  exact h
theorem en_ex {K V : Nat → Nat} {bs : Nat} {st u : St} {tbs : List Nat} (h : enOK K V bs st tbs) (hf : exFr st u) : enOK K V bs u tbs := by
  unfold enOK
  rw [hf.1 50 (by decide) (by decide) (by decide) (by decide) (by decide)]
  exact h
/-- exOK asks of a state's rows and fields no more than these -/
theorem ex_rows {K : Nat → Nat} {st u : St} {A : EA} (h : exOK K st A) (h1 : ∀ j, (10 ≤ j ∧ j ≤ 15) ∨ j = 44 ∨ j = 49 → u.1 31 j = st.1 31 j) (h2 : ∀ a, 57 ≤ a ∧ a ≤ 60 → u.1 a = st.1 a) : exOK K u A := by
  unfold exOK
  rw [h1 10 (by omega), h1 12 (by omega), h1 11 (by omega), h1 44 (by omega), h1 14 (by omega), h1 15 (by omega), h1 49 (by omega), h2 57 (by omega), h2 58 (by omega), h2 59 (by omega), h2 60 (by omega)]
  exact h
theorem ex_kn {K : Nat → Nat} {st : St} {A : EA} (h : exOK K st A) (n : Nat) (w : Int64) (s a : Int32) : exOK K (knS st n w s a) A := by
  refine ex_rows h (fun j hj => ?_) (fun b hb => ?_)
  · unfold knS
    rw [sI_1, if_neg (by omega), sI_row (by decide), sI_row (by decide)]; rfl
  · unfold knS
    rw [sI_row (by omega), sI_row (by omega), sI_row (by omega)]; rfl
theorem ex_en {K : Nat → Nat} {st : St} {A : EA} (h : exOK K st A) (n : Nat) (c w z : Int32) : exOK K (enS st n c w z) A := by
  refine ex_rows h (fun j hj => ?_) (fun b hb => ?_)
  · unfold enS
    rw [sI_1, if_neg (by omega), sI_row (by decide), sI_row (by decide), sI_row (by decide)]
  · unfold enS
    rw [sI_row (by omega), sI_row (by omega), sI_row (by omega), sI_row (by omega)]
/-- an end: a fault, or what stands then -/
def tuP (K P V W : Nat → Nat) (bs pg : Nat) (st : St) (p : PM) (o : Nat) (R : GR) (p2 : Nat × Nat × Nat) (u : St) : Prop := tlFr st u ∧ match R with
  | .inl e => u.1 31 12 = nI e.1 ∧ u.1 31 13 = nI (P e.2) ∧ 1 ≤ e.1 ∧ e.1 ≤ 2
  | .inr s => ∃ gs C TL, TK K P V W bs pg u s gs C TL ∧ ((pmF K P W bs s.2.2).2.1, (pmF K P W bs s.2.2).2.2.2.1.length, n7 gs) = p2
section TELN
variable {l : Launch} {D : va_G} {cy : Nat → ClassId} {K P V W : Nat → Nat} {bs pg : Nat}
theorem w_tellIn (st : St) {s : GS} {gs : List GP} {C : List (Nat × Nat)} {TL : List TE} (hT : TK K P V W bs pg st s gs C TL) (hk : K s.1 = 4) : Mv l D cy 4 YX12_tellIn [.ref 31] st (tuP K P V W bs pg st (pmF K P W bs s.2.2) (n7 gs) (gb (psF s) (fun s1 => gb (tkF K 2 (gvF 0 s1.1 s1)) (fun s2 => gb (tkF K 59 s2) .inr))) ((pmF K P W bs s.2.2).2.1 + 1, (pmF K P W bs s.2.2).2.2.2.1.length, n7 gs)) := by
  obtain ⟨t1, ⟨Wt, t2⟩, t3, t4, t5, t6, t7⟩ := hT
  have hS : SB K P V W (nmL W (pmF K P W bs s.2.2).1) bs st := ⟨t1.1, t3, t1.2.1⟩
  have h300 : s.1 ≤ 300 := t2.1.2.1
  have hlen : 3 * (pmF K P W bs s.2.2).1.length ≤ s.1 := t7.2.1.2.2.2
  have hins : (pmF K P W bs s.2.2).2.1 ≤ (pmF K P W bs s.2.2).1.length := t7.2.2.1.2.2.1
  have hpg := t1.2.2.2
  have hin : vp_in (nI pg) 5 := vp_in_nI (by omega) (by decide)
  have hcl : (nI pg).toNatClampNeg = pg := nI_clamp (by omega)
  generalize hR : gb (psF s) (fun s1 => gb (tkF K 2 (gvF 0 s1.1 s1)) (fun s2 => gb (tkF K 59 s2) .inr)) = R
  refine M.ofG [some (.ref 31), none] (by decide) (Nat.le_of_ble_eq_true rfl) rfl ?_
  intro xp xe xs xm xa xb xme xc xad xA
  have hfin : ∀ (u : St) (e : Nat × Nat) (z : Option Value), R = .inl e → 1 ≤ e.1 ∧ e.1 ≤ 2 → exD P st u e → G xp l xe (rmd (4)) xs xm xa xb xme xc D cy xad xA (YX12_tellIn.2.1, YX12_tellIn.1.cls, YX12_tellIn.2.2.1, YX12_tellIn.2.2.2) (Pv (tuP K P V W bs pg st (pmF K P W bs s.2.2) (n7 gs) R ((pmF K P W bs s.2.2).2.1 + 1, (pmF K P W bs s.2.2).2.2.2.1.length, n7 gs))) 14 ([some (.ref 31), z]) ([]) (u) := by
    intro u e z hR2 he hd
    refine g_ald0 eX12_tellIn_14 ?_
    refine g_getI (ci := 11) (j := 12) rfl (Nat.le_of_ble_eq_true rfl) (Nat.le_of_ble_eq_true rfl) (Nat.le_of_ble_eq_true rfl) rfl fl_X12_217 eX12_tellIn_15 ?_
    rw [hd.2.1]
    refine g_if_le eX12_tellIn_18 (fun hb => ?_) (fun hb => ?_)
    · exact absurd hb (nI_nle (by omega) (by omega))
    · refine g_vret rfl eX12_tellIn_21 ⟨rfl, ?_⟩
      try dsimp only
      unfold tuP
      rw [hR2]
      exact ⟨tl_ex hd.1, hd.2.1, hd.2.2, he.1, he.2⟩
  have hdead : ∀ (u : St) (e : Nat × Nat) (z : Option Value), R = .inl e → 1 ≤ e.1 ∧ e.1 ≤ 2 → exD P st u e → G xp l xe (rmd (4)) xs xm xa xb xme xc D cy xad xA (YX12_tellIn.2.1, YX12_tellIn.1.cls, YX12_tellIn.2.2.1, YX12_tellIn.2.2.2) (Pv (tuP K P V W bs pg st (pmF K P W bs s.2.2) (n7 gs) R ((pmF K P W bs s.2.2).2.1 + 1, (pmF K P W bs s.2.2).2.2.2.1.length, n7 gs))) 9 ([some (.ref 31), z]) ([]) (u) := by
    intro u e z hR2 he hd
    refine g_ald0 eX12_tellIn_9 ?_
    refine g_iconst (v := 4) (by decide) eX12_tellIn_10 ?_
    refine g_callVv (ci := 11) (w_mustD u hd.2.1 he.1 (by omega) 4) rfl (Nat.le_of_ble_eq_true rfl) (Nat.le_of_ble_eq_true rfl) rfl cv_X12_289 eX12_tellIn_11 ⟨Nat.le_of_ble_eq_true rfl, Nat.le_of_ble_eq_true rfl⟩ rfl rfl (Nat.le_of_ble_eq_true rfl) (fun u h => ?_)
    subst h
    exact hfin u e z hR2 he hd
  refine g_ald0 eX12_tellIn_0 ?_
  refine g_callVv (ci := 11) (w_goesOn st hS.1 t2 (by show K s.1 ≠ 0 ∧ K s.1 ≠ 1; omega)) rfl (Nat.le_of_ble_eq_true rfl) (Nat.le_of_ble_eq_true rfl) rfl cv_X12_238 eX12_tellIn_1 ⟨Nat.le_of_ble_eq_true rfl, Nat.le_of_ble_eq_true rfl⟩ rfl rfl (Nat.le_of_ble_eq_true rfl) (fun u1 h1 => ?_)
  dsimp only at h1
  rcases e1 : psF s with e | s1
  · rw [e1] at h1
    have hf1 := ns_ex t3 h1.1.1
    refine g_ald0 eX12_tellIn_4 ?_
    refine g_callVi (ci := 11) (w_namedD u1 h1.1.2.1 (psF_er e1).1 (by have := psF_er e1; omega) hf1.1) rfl (Nat.le_of_ble_eq_true rfl) (Nat.le_of_ble_eq_true rfl) rfl cv_X12_296 eX12_tellIn_5 ⟨Nat.le_of_ble_eq_true rfl, Nat.le_of_ble_eq_true rfl⟩ rfl rfl (Nat.le_of_ble_eq_true rfl) (fun r u1 h9 => ?_)
    obtain ⟨rfl, rfl⟩ := h9
    refine g_ist1 rfl (Nat.le_of_ble_eq_true rfl) eX12_tellIn_8 ?_
    exact hdead u1 e _ (by rw [← hR, e1]; rfl) (psF_er e1) h1.1
  · rw [e1] at h1
    obtain ⟨f1, x1⟩ := h1
    obtain ⟨rfl, hlt⟩ := psF_eq e1
    have hS1 := SB_fr hS f1
    refine g_ald0 eX12_tellIn_4 ?_
    refine g_callVi (ci := 11) (w_named u1 hS1 x1) rfl (Nat.le_of_ble_eq_true rfl) (Nat.le_of_ble_eq_true rfl) rfl cv_X12_296 eX12_tellIn_5 ⟨Nat.le_of_ble_eq_true rfl, Nat.le_of_ble_eq_true rfl⟩ rfl rfl (Nat.le_of_ble_eq_true rfl) (fun r u2 h2 => ?_)
    rcases e2 : tkF K 2 ((s.1 + 1, s.2) : GS) with e | s2
    · rw [e2] at h2
      obtain ⟨q1, q2, q3⟩ := h2
      refine g_ist1 rfl (Nat.le_of_ble_eq_true rfl) eX12_tellIn_8 ?_
      refine hdead u2 e _ ?_ (tkF_er e2) ⟨f1.trans q1.1, q1.2⟩
      rw [← hR, e1]
      show gb (tkF K 2 (gvF 0 (s.1 + 1) ((s.1 + 1, s.2) : GS))) _ = _
      rw [tkF_er2 (s2 := gvF 0 (s.1 + 1) ((s.1 + 1, s.2) : GS)) e2 rfl]
      rfl
    · rw [e2] at h2
      obtain ⟨f2, rfl, x2⟩ := h2
      have hk2 : K (s.1 + 1) = 2 := (tkF_ok e2).1
      obtain ⟨rfl, hlt2⟩ := psF_eq (tkF_ok e2).2
      have hS2 := SB_fr hS1 f2
      have f12 := f1.trans f2
      refine g_ist1 rfl (Nat.le_of_ble_eq_true rfl) eX12_tellIn_8 ?_
      refine g_ald0 eX12_tellIn_9 ?_
      refine g_iconst (v := 4) (by decide) eX12_tellIn_10 ?_
      refine g_callVv (ci := 11) (w_must u2 hS2.1 x2 59 (by decide) 4 rfl (by decide)) rfl (Nat.le_of_ble_eq_true rfl) (Nat.le_of_ble_eq_true rfl) rfl cv_X12_289 eX12_tellIn_11 ⟨Nat.le_of_ble_eq_true rfl, Nat.le_of_ble_eq_true rfl⟩ rfl rfl (Nat.le_of_ble_eq_true rfl) (fun u3 h3 => ?_)
      have eR2 : R = gb (tkF K 59 ((s.1 + 2, s.2.1, s.2.2 ++ [(0, s.1 + 1)]) : GS)) .inr := by
        rw [← hR, e1]
        show gb (tkF K 2 (gvF 0 (s.1 + 1) ((s.1 + 1, s.2) : GS))) _ = _
        rw [tkF_mk e2 (s2 := gvF 0 (s.1 + 1) ((s.1 + 1, s.2) : GS)) rfl]
        rfl
      rcases e3 : tkF K 59 ((s.1 + 1 + 1, s.2) : GS) with e | s3
      · rw [e3] at h3
        refine hfin u3 e _ ?_ (tkF_er e3) ⟨f12.trans h3.1.1, h3.1.2⟩
        rw [eR2, tkF_er2 (s2 := ((s.1 + 2, s.2.1, s.2.2 ++ [(0, s.1 + 1)]) : GS)) e3 rfl]
        rfl
      · rw [e3] at h3
        obtain ⟨f3, x3⟩ := h3
        obtain ⟨rfl, hlt3⟩ := psF_eq (tkF_ok e3).2
        have f13 := f12.trans f3
        have eR3 : R = .inr (s.1 + 3, s.2.1, s.2.2 ++ [(0, s.1 + 1)]) := by
          rw [eR2, tkF_mk e3 (s2 := ((s.1 + 2, s.2.1, s.2.2 ++ [(0, s.1 + 1)]) : GS)) rfl]
          rfl
        have ct3 := ct_ex t4 f13
        have ns3 := ns_ex t3 f13
        have st3 := skM_fr t1 (tl_ex f13)
        have hw3 : u3.2 37 (s.1 + 1) = lN (W (s.1 + 1)) := by
          rw [f13.2.2]
          have hv := t1.1 (s.1 + 1) (by omega) (fun j hj => by
            by_cases e : j = s.1
            · rw [e]; omega
            · exact t2.1.2.2 j (by show j < s.1; omega))
          exact hv.2.2.2.1 hk2
        have hWl : W (s.1 + 1) < 1099511627776 := by
          have hv := t1.1 (s.1 + 1) (by omega) (fun j hj => by
            by_cases e : j = s.1
            · rw [e]; omega
            · exact t2.1.2.2 j (by show j < s.1; omega))
          exact hv.2.2.2.2.2.2.2 hk2
        refine g_ald0 eX12_tellIn_14 ?_
        refine g_getI (ci := 11) (j := 12) rfl (Nat.le_of_ble_eq_true rfl) (Nat.le_of_ble_eq_true rfl) (Nat.le_of_ble_eq_true rfl) rfl fl_X12_217 eX12_tellIn_15 ?_
        rw [x3.2.1]
        refine g_if_le eX12_tellIn_18 (fun hb => ?_) (fun hb => ?_)
        · refine g_ald0 eX12_tellIn_22 ?_
          refine g_ild1 eX12_tellIn_23 ?_
          refine g_iconst (v := 0) (by decide) eX12_tellIn_24 ?_
          refine g_ald0 eX12_tellIn_25 ?_
          refine g_getR (ci := 11) (j := 21) rfl (Nat.le_of_ble_eq_true rfl) (Nat.le_of_ble_eq_true rfl) (Nat.le_of_ble_eq_true rfl) rfl rfl fl_X12_37 eX12_tellIn_26 ?_
          refine g_ald0 eX12_tellIn_29 ?_
          refine g_getI (ci := 11) (j := 20) rfl (Nat.le_of_ble_eq_true rfl) (Nat.le_of_ble_eq_true rfl) (Nat.le_of_ble_eq_true rfl) rfl fl_X12_250 eX12_tellIn_30 ?_
          rw [st3.2.2.1]
          refine g_iald rfl (Nat.le_of_ble_eq_true rfl) hin eX12_tellIn_33 ?_
          rw [hcl, ct3.1]
          refine g_callVv (ci := 11) (w_knows u3 ns3 (by rw [nmL_len]; omega) (s.1 + 1) (W (s.1 + 1)) (by omega) hw3 0 (nI (pmF K P W bs s.2.2).2.1)) rfl (Nat.le_of_ble_eq_true rfl) (Nat.le_of_ble_eq_true rfl) rfl cv_X12_300 eX12_tellIn_34 ⟨Nat.le_of_ble_eq_true rfl, Nat.le_of_ble_eq_true rfl⟩ rfl rfl (Nat.le_of_ble_eq_true rfl) (fun u4 h4 => ?_)
          subst h4
          have e39 : ∀ j, (knS u3 (nmL W (pmF K P W bs s.2.2).1).length (lN (W (s.1 + 1))) 0 (nI (pmF K P W bs s.2.2).2.1)).1 39 j = u3.1 39 j := fun j => by
            unfold knS
            rw [sI_row (by decide), sI_row (by decide), sI_row (by decide)]; rfl
          have f4 := (tl_ex f13).trans (tl_kn u3 (nmL W (pmF K P W bs s.2.2).1).length (lN (W (s.1 + 1))) 0 (nI (pmF K P W bs s.2.2).2.1))
          have st4 := skM_fr t1 f4
          refine g_ald0 eX12_tellIn_37 ?_
          refine g_getR (ci := 11) (j := 21) rfl (Nat.le_of_ble_eq_true rfl) (Nat.le_of_ble_eq_true rfl) (Nat.le_of_ble_eq_true rfl) rfl rfl fl_X12_37 eX12_tellIn_38 ?_
          refine g_ald0 eX12_tellIn_41 ?_
          refine g_getI (ci := 11) (j := 20) rfl (Nat.le_of_ble_eq_true rfl) (Nat.le_of_ble_eq_true rfl) (Nat.le_of_ble_eq_true rfl) rfl fl_X12_250 eX12_tellIn_42 ?_
          rw [st4.2.2.1]
          refine g_dup2 rfl rfl eX12_tellIn_45 ?_
          refine g_iald rfl (Nat.le_of_ble_eq_true rfl) hin eX12_tellIn_46 ?_
          rw [hcl, e39, ct3.1]
          refine g_iconst (v := 1) (by decide) eX12_tellIn_47 ?_
          refine g_iadd eX12_tellIn_48 ?_
          rw [show nI (pmF K P W bs s.2.2).2.1 + 1 = nI ((pmF K P W bs s.2.2).2.1 + 1) from nI_1 _]
          refine g_iast rfl (Nat.le_of_ble_eq_true rfl) hin eX12_tellIn_49 ?_
          rw [hcl]
          refine g_vret rfl eX12_tellIn_50 ⟨rfl, ?_⟩
          try dsimp only
          unfold tuP
          rw [eR3]
          have ns4 := ns_kn ns3 (by rw [nmL_len]; omega) (w := W (s.1 + 1)) (s := 0) (a := (pmF K P W bs s.2.2).2.1) hWl (by decide) (by omega)
          rw [show nI 0 = (0 : Int32) from rfl] at ns4
          have eP : pmF K P W bs (s.2.2 ++ [(0, s.1 + 1)]) = ((pmF K P W bs s.2.2).1 ++ [(s.1 + 1, 0, (pmF K P W bs s.2.2).2.1)], (pmF K P W bs s.2.2).2.1 + 1, (pmF K P W bs s.2.2).2.2.1, (pmF K P W bs s.2.2).2.2.2.1, w3F P W (pmF K P W bs s.2.2).1 (pmF K P W bs s.2.2).2.2.2.2 (s.1 + 1)) := by rw [pmF_app]; rfl
          have f5 := f4.trans (tl_39 (j := pg) _ (nI ((pmF K P W bs s.2.2).2.1 + 1)) (by rw [f4.2.1 20 (by decide) (by decide) (by decide) (by decide) (by decide) (by decide)]; exact t1.2.2.1))
          have hkp := TKp_name t7 (s2 := (s.1 + 3, s.2.1, s.2.2 ++ [(0, s.1 + 1)])) rfl (Nat.le_refl _) rfl (Or.inl rfl)
          have r31 : ∀ j, j ≠ 28 → (sI (knS u3 (nmL W (pmF K P W bs s.2.2).1).length (lN (W (s.1 + 1))) 0 (nI (pmF K P W bs s.2.2).2.1)) 39 pg (nI ((pmF K P W bs s.2.2).2.1 + 1))).1 31 j = u3.1 31 j := fun j hj => by
            rw [sI_row (by decide)]
            unfold knS
            rw [sI_1, if_neg (by omega), sI_row (by decide), sI_row (by decide)]; rfl
          have rr : ∀ b, b ≠ 31 → b ≠ 39 → b ≠ 47 → b ≠ 48 → (sI (knS u3 (nmL W (pmF K P W bs s.2.2).1).length (lN (W (s.1 + 1))) 0 (nI (pmF K P W bs s.2.2).2.1)) 39 pg (nI ((pmF K P W bs s.2.2).2.1 + 1))).1 b = u3.1 b := fun b h1 h2 h3 h4 => by
            rw [sI_row h2]
            unfold knS
            rw [sI_row h1, sI_row h4, sI_row h3]; rfl
          refine ⟨f5, gs, C, TL, ⟨skM_fr t1 f5, ⟨Wt, ?_⟩, ?_, ?_, ?_, ?_, hkp⟩, ?_⟩
          · rw [eP]
            exact ex_rows x3 (fun j hj => r31 j (by omega)) (fun b hb => rr b (by omega) (by omega) (by omega) (by omega))
          · rw [eP, nmL_app]
            unfold nsOK
            rw [sI_row (a := 31) (by decide), sI_row (a := 47) (by decide), sI_row (a := 48) (by decide)]
            exact ns4
          · rw [eP]
            refine ⟨?_, ?_, ?_, ?_⟩
            · rw [sI_at, if_pos rfl]
            · rw [r31 _ (by decide)]; exact ct3.2.1
            · rw [r31 _ (by decide)]; exact ct3.2.2.1
            · rw [r31 _ (by decide)]; exact ct3.2.2.2
          · unfold teOK
            rw [r31 36 (by decide), rr 52 (by decide) (by decide) (by decide) (by decide), rr 53 (by decide) (by decide) (by decide) (by decide), rr 54 (by decide) (by decide) (by decide) (by decide), rr 55 (by decide) (by decide) (by decide) (by decide)]
            exact te_ex t5 f13
          · rw [eP]
            unfold enOK
            rw [rr 50 (by decide) (by decide) (by decide) (by decide)]
            exact en_ex t6 f13
          · rw [eP]
        · exact absurd (show (0 : Int32) ≤ 0 by decide) hb
end TELN
