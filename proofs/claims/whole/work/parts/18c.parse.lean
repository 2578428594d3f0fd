/-! THE MODEL PARSES: small ones -/
def vkL : List Nat := [0, 1, 2, 3, 4, 5, 6, 7, 8, 9, 59, 58, 44, 61, 43, 45, 42, 40, 41]
theorem mkK_inj : ∀ a ∈ vkL, ∀ b ∈ vkL, mkK a = mkK b → a = b := by decide +kernel
theorem mkK_lt : ∀ a ∈ vkL, mkK a < 26 := by decide +kernel
theorem mkK_is {a b k : Nat} (ha : a ∈ vkL) (hb : b ∈ vkL) (hk : mkK b = k) : mkK a = k ↔ a = b := by
  subst hk
  exact ⟨mkK_inj a ha b hb, fun h => by rw [h]⟩
/-- the model's tokens, up to the first that is bad or the end -/
def tvM (K P V W : Nat → Nat) (st : St) : Prop := ∀ k, k ≤ 300 → (∀ j, j < k → K j ≠ 0 ∧ K j ≠ 1) → st.1 34 k = nI (mkK (K k)) ∧ st.1 35 k = nI (P k) ∧ (K k = 3 → st.1 36 k = nI (V k)) ∧ (K k = 2 → st.2 37 k = lN (W k)) ∧ K k ∈ vkL ∧ P k ≤ 2000 ∧ (K k = 3 → V k < 100000) ∧ (K k = 2 → W k < 1099511627776)
abbrev MN : Type := Nat × Nat × Nat
def nsOK (st : St) (M : List MN) : Prop := st.1 31 28 = nI M.length ∧ M.length ≤ 300 ∧ ∀ j, j < M.length → st.2 46 j = lN (M.getD j (0, 0, 0)).1 ∧ st.1 47 j = nI (M.getD j (0, 0, 0)).2.1 ∧ st.1 48 j = nI (M.getD j (0, 0, 0)).2.2 ∧ (M.getD j (0, 0, 0)).1 < 1099511627776 ∧ (M.getD j (0, 0, 0)).2.1 ≤ 2 ∧ (M.getD j (0, 0, 0)).2.2 ≤ 300
/-- token ahead and what is written; opens; codes; what was worst; what waits (the newest first: kind, int, first token) -/
abbrev EA : Type := GS × Nat × List (Nat × Nat) × (Nat × Nat) × List (Nat × Nat × Nat)
def exOK (K : Nat → Nat) (st : St) (A : EA) : Prop :=
  (st.1 31 10 = nI A.1.1 ∧ A.1.1 ≤ 300 ∧ (∀ j, j < A.1.1 → K j ≠ 0 ∧ K j ≠ 1)) ∧ st.1 31 12 = 0 ∧ st.1 31 11 = nI A.2.1 ∧
  (st.1 31 44 = nI A.2.2.1.length ∧ ∀ j, j < A.2.2.1.length → st.1 57 j = nI (A.2.2.1.getD j (0, 0)).1 ∧ st.1 58 j = nI (A.2.2.1.getD j (0, 0)).2) ∧
  (st.1 31 14 = nI A.2.2.2.1.1 ∧ (A.2.2.2.1.1 ≠ 0 → st.1 31 15 = nI A.2.2.2.1.2) ∧ A.2.2.2.1.1 < 10 ∧ A.2.2.2.1.2 ≤ 2000) ∧
  (st.1 31 49 = nI A.2.2.2.2.length ∧ ∀ j, j < A.2.2.2.2.length → st.1 59 j = nI (A.2.2.2.2.getD (A.2.2.2.2.length - 1 - j) (0, 0, 0)).1 ∧ st.1 60 j = nI (A.2.2.2.2.getD (A.2.2.2.2.length - 1 - j) (0, 0, 0)).2.1)
def exFr (st u : St) : Prop := (∀ a, a ≠ 31 → a ≠ 57 → a ≠ 58 → a ≠ 59 → a ≠ 60 → u.1 a = st.1 a) ∧ (∀ j, (j < 10 ∨ 15 < j) → j ≠ 44 → j ≠ 49 → u.1 31 j = st.1 31 j) ∧ u.2 = st.2
theorem exFr.refl (st : St) : exFr st st := ⟨fun _ _ _ _ _ _ => rfl, fun _ _ _ _ => rfl, rfl⟩
theorem exFr.trans {a b c : St} (h1 : exFr a b) (h2 : exFr b c) : exFr a c := ⟨fun k x y z v w => (h2.1 k x y z v w).trans (h1.1 k x y z v w), fun j x y z => (h2.2.1 j x y z).trans (h1.2.1 j x y z), h2.2.2.trans h1.2.2⟩
theorem exFr_f (st : St) {j : Nat} (x : Int32) (h : (10 ≤ j ∧ j ≤ 15) ∨ j = 44 ∨ j = 49) : exFr st (sI st 31 j x) := ⟨fun a h31 _ _ _ _ => sI_row h31, fun i a b c => by rw [sI_1, if_neg (by omega)], rfl⟩
theorem exFr_r (st : St) {k j : Nat} (x : Int32) (h : 57 ≤ k ∧ k ≤ 60) : exFr st (sI st k j x) := ⟨fun a _ x1 x2 x3 x4 => sI_row (by omega), fun i a b c => by rw [sI_row (by omega)], rfl⟩
/-- what stands still while an expression is gone through -/
def SB (K P V W : Nat → Nat) (M : List MN) (bs : Nat) (st : St) : Prop := tvM K P V W st ∧ nsOK st M ∧ st.1 31 17 = nI bs ∧ 2 ≤ bs ∧ bs ≤ 13
theorem SB_fr {K P V W : Nat → Nat} {M : List MN} {bs : Nat} {st u : St} (h : SB K P V W M bs st) (hf : exFr st u) : SB K P V W M bs u := by
  obtain ⟨h1, h2, h3, h4⟩ := h
  refine ⟨?_, ?_, ?_, h4⟩
  · unfold tvM
    rw [hf.1 34 (by decide) (by decide) (by decide) (by decide) (by decide), hf.1 35 (by decide) (by decide) (by decide) (by decide) (by decide), hf.1 36 (by decide) (by decide) (by decide) (by decide) (by decide), hf.2.2]
    exact h1
  · unfold nsOK
    rw [hf.2.1 28 (by decide) (by decide) (by decide), hf.1 47 (by decide) (by decide) (by decide) (by decide) (by decide), hf.1 48 (by decide) (by decide) (by decide) (by decide) (by decide), hf.2.2]
    exact h2
  · rw [hf.2.1 17 (by decide) (by decide) (by decide)]; exact h3
def exD (P : Nat → Nat) (st u : St) (e : Nat × Nat) : Prop := exFr st u ∧ u.1 31 12 = nI e.1 ∧ u.1 31 13 = nI (P e.2)
/-- a field that is none of these -/
theorem ex_t {K : Nat → Nat} {st : St} {A : EA} (h : exOK K st A) {t2 : Nat} (h2 : t2 ≤ 300) (h3 : ∀ j, j < t2 → K j ≠ 0 ∧ K j ≠ 1) : exOK K (sI st 31 10 (nI t2)) ((t2, A.1.2), A.2) := by
  obtain ⟨a, b, c, d, e, f⟩ := h
  refine ⟨⟨?_, h2, h3⟩, ?_, ?_, ⟨?_, d.2⟩, ⟨?_, fun q => ?_, e.2.2⟩, ⟨?_, f.2⟩⟩
  · rw [sI_1, if_pos ⟨rfl, rfl⟩]
  · rw [sI_1, if_neg (by omega)]; exact b
  · rw [sI_1, if_neg (by omega)]; exact c
  · rw [sI_1, if_neg (by omega)]; exact d.1
  · rw [sI_1, if_neg (by omega)]; exact e.1
  · rw [sI_1, if_neg (by omega)]; exact e.2.1 q
  · rw [sI_1, if_neg (by omega)]; exact f.1
theorem ex_op {K : Nat → Nat} {st : St} {A : EA} (h : exOK K st A) (o : Nat) : exOK K (sI st 31 11 (nI o)) (A.1, o, A.2.2) := by
  obtain ⟨a, b, c, d, e, f⟩ := h
  refine ⟨⟨?_, a.2⟩, ?_, ?_, ⟨?_, d.2⟩, ⟨?_, fun q => ?_, e.2.2⟩, ⟨?_, f.2⟩⟩
  · rw [sI_1, if_neg (by omega)]; exact a.1
  · rw [sI_1, if_neg (by omega)]; exact b
  · rw [sI_1, if_pos ⟨rfl, rfl⟩]
  · rw [sI_1, if_neg (by omega)]; exact d.1
  · rw [sI_1, if_neg (by omega)]; exact e.1
  · rw [sI_1, if_neg (by omega)]; exact e.2.1 q
  · rw [sI_1, if_neg (by omega)]; exact f.1
/-- the newest that waits goes -/
theorem ex_pop {K : Nat → Nat} {st : St} {s : GS} {o : Nat} {C : List (Nat × Nat)} {w : Nat × Nat} {x : Nat × Nat × Nat} {r : List (Nat × Nat × Nat)} (h : exOK K st (s, o, C, w, x :: r)) : exOK K (sI st 31 49 (nI r.length)) (s, o, C, w, r) := by
  obtain ⟨a, b, c, d, e, f⟩ := h
  refine ⟨⟨?_, a.2⟩, ?_, ?_, ⟨?_, d.2⟩, ⟨?_, fun q => ?_, e.2.2⟩, ⟨?_, fun j hj => ?_⟩⟩
  · rw [sI_1, if_neg (by omega)]; exact a.1
  · rw [sI_1, if_neg (by omega)]; exact b
  · rw [sI_1, if_neg (by omega)]; exact c
  · rw [sI_1, if_neg (by omega)]; exact d.1
  · rw [sI_1, if_neg (by omega)]; exact e.1
  · rw [sI_1, if_neg (by omega)]; exact e.2.1 q
  · rw [sI_1, if_pos ⟨rfl, rfl⟩]
  · have hj2 : j < r.length := hj
    have h9 := f.2 j (by show j < (x :: r).length; rw [List.length_cons]; omega)
    have e1 : (x :: r).length - 1 - j = (r.length - 1 - j) + 1 := by rw [List.length_cons]; omega
    dsimp only at h9
    rw [e1] at h9
    exact h9
section PARM
variable {l : Launch} {D : va_G} {cy : Nat → ClassId} {K P V W : Nat → Nat} {M : List MN} {bs : Nat}
theorem w_is (st : St) {A : EA} (hS : tvM K P V W st) (h : exOK K st A) (k : Nat) (hk : k < 100) : Mi l D cy 0 YX12_is [.ref 31, .int (nI k)] st (fun r u => u = st ∧ r = b2 (mkK (K A.1.1) = k)) := by
  obtain ⟨⟨a1, a2, a3⟩, b, -⟩ := h
  have hv := hS A.1.1 a2 a3
  have hl := mkK_lt _ hv.2.2.2.2.1
  refine M.ofG [some (.ref 31), some (.int (nI k))] (by decide) (Nat.le_of_ble_eq_true rfl) rfl ?_
  intro xp xe xs xm xa xb xme xc xad xA
  refine g_ald0 eX12_is_0 ?_
  refine g_getI (ci := 11) (j := 12) rfl (Nat.le_of_ble_eq_true rfl) (Nat.le_of_ble_eq_true rfl) (Nat.le_of_ble_eq_true rfl) rfl fl_X12_217 eX12_is_1 ?_
  rw [b]
  refine g_if_ne eX12_is_4 (fun hb => ?_) (fun hb => ?_)
  · exact absurd rfl hb
  · refine g_ald0 eX12_is_7 ?_
    refine g_getR (ci := 11) (j := 4) rfl (Nat.le_of_ble_eq_true rfl) (Nat.le_of_ble_eq_true rfl) (Nat.le_of_ble_eq_true rfl) rfl rfl fl_X12_16 eX12_is_8 ?_
    refine g_ald0 eX12_is_11 ?_
    refine g_getI (ci := 11) (j := 10) rfl (Nat.le_of_ble_eq_true rfl) (Nat.le_of_ble_eq_true rfl) (Nat.le_of_ble_eq_true rfl) rfl fl_X12_220 eX12_is_12 ?_
    rw [a1]
    refine g_iald rfl (Nat.le_of_ble_eq_true rfl) (vp_in_nI (n := A.1.1) (N := 303) (by omega) (by decide)) eX12_is_15 ?_
    rw [nI_clamp (by omega), hv.1]
    refine g_ild1 eX12_is_16 ?_
    refine g_icmp_ne eX12_is_17 (fun hb2 => ?_) (fun hb2 => ?_)
    · rw [nI_eq (by omega) (by omega)] at hb2
      refine g_iconst (v := 0) (by decide) eX12_is_24 ?_
      exact g_zret (ty := .boolean) rfl (by first | rfl | assumption) eX12_is_25 ⟨_, rfl, ⟨rfl, b2_f hb2⟩⟩
    · rw [nI_eq (by omega) (by omega)] at hb2
      refine g_iconst (v := 1) (by decide) eX12_is_20 ?_
      refine g_goto eX12_is_21 ?_
      exact g_zret (ty := .boolean) rfl (by first | rfl | assumption) eX12_is_25 ⟨_, rfl, ⟨rfl, b2_t hb2⟩⟩
theorem w_isD (st : St) {f : Nat} (hf : st.1 31 12 = nI f) (h0 : 1 ≤ f) (h9 : f < 10) (k : Int32) : Mi l D cy 0 YX12_is [.ref 31, .int k] st (fun r u => u = st ∧ r = 0) := by
  refine M.ofG [some (.ref 31), some (.int k)] (by decide) (Nat.le_of_ble_eq_true rfl) rfl ?_
  intro xp xe xs xm xa xb xme xc xad xA
  refine g_ald0 eX12_is_0 ?_
  refine g_getI (ci := 11) (j := 12) rfl (Nat.le_of_ble_eq_true rfl) (Nat.le_of_ble_eq_true rfl) (Nat.le_of_ble_eq_true rfl) rfl fl_X12_217 eX12_is_1 ?_
  rw [hf]
  refine g_if_ne eX12_is_4 (fun hb => ?_) (fun hb => ?_)
  · refine g_iconst (v := 0) (by decide) eX12_is_24 ?_
    exact g_zret (ty := .boolean) rfl (by first | rfl | assumption) eX12_is_25 ⟨_, rfl, ⟨rfl, rfl⟩⟩
  · exact absurd hb (nI_ne0 (by omega) (by omega))
theorem w_fail (st : St) {A : EA} (hS : tvM K P V W st) (h : exOK K st A) (f : Nat) : Mv l D cy 0 YX12_fail [.ref 31, .int (nI f)] st (fun u => exD P st u (f, A.1.1) ∧ u.1 31 49 = st.1 31 49) := by
  obtain ⟨⟨a1, a2, a3⟩, b, -⟩ := h
  have hv := hS A.1.1 a2 a3
  refine M.ofG [some (.ref 31), some (.int (nI f))] (by decide) (Nat.le_of_ble_eq_true rfl) rfl ?_
  intro xp xe xs xm xa xb xme xc xad xA
  refine g_ald0 eX12_fail_0 ?_
  refine g_getI (ci := 11) (j := 12) rfl (Nat.le_of_ble_eq_true rfl) (Nat.le_of_ble_eq_true rfl) (Nat.le_of_ble_eq_true rfl) rfl fl_X12_217 eX12_fail_1 ?_
  rw [b]
  refine g_if_le eX12_fail_4 (fun hb => ?_) (fun hb => ?_)
  · refine g_ald0 eX12_fail_8 ?_
    refine g_ild1 eX12_fail_9 ?_
    refine g_putI (ci := 11) (j := 12) rfl rfl (Nat.le_of_ble_eq_true rfl) (Nat.le_of_ble_eq_true rfl) (Nat.le_of_ble_eq_true rfl) rfl fl_X12_217 eX12_fail_10 ?_
    refine g_ald0 eX12_fail_13 ?_
    refine g_ald0 eX12_fail_14 ?_
    refine g_getR (ci := 11) (j := 5) rfl (Nat.le_of_ble_eq_true rfl) (Nat.le_of_ble_eq_true rfl) (Nat.le_of_ble_eq_true rfl) rfl rfl fl_X12_20 eX12_fail_15 ?_
    refine g_ald0 eX12_fail_18 ?_
    refine g_getI (ci := 11) (j := 10) rfl (Nat.le_of_ble_eq_true rfl) (Nat.le_of_ble_eq_true rfl) (Nat.le_of_ble_eq_true rfl) rfl fl_X12_220 eX12_fail_19 ?_
    rw [show (sI st 31 12 (nI f)).1 31 10 = nI A.1.1 by rw [sI_1, if_neg (by omega)]; exact a1]
    refine g_iald rfl (Nat.le_of_ble_eq_true rfl) (vp_in_nI (n := A.1.1) (N := 303) (by omega) (by decide)) eX12_fail_22 ?_
    rw [nI_clamp (by omega), sI_row (a := 35) (by decide), hv.2.1]
    refine g_putI (ci := 11) (j := 13) rfl rfl (Nat.le_of_ble_eq_true rfl) (Nat.le_of_ble_eq_true rfl) (Nat.le_of_ble_eq_true rfl) rfl fl_X12_223 eX12_fail_23 ?_
    refine g_vret rfl eX12_fail_26 ⟨rfl, ?_⟩
    try dsimp only
    refine ⟨⟨(exFr_f _ _ (by omega)).trans (exFr_f _ _ (by omega)), ?_, ?_⟩, ?_⟩
    · rw [sI_1, if_neg (by omega), sI_1, if_pos ⟨rfl, rfl⟩]
    · rw [sI_1, if_pos ⟨rfl, rfl⟩]
    · rw [sI_1, if_neg (by omega), sI_1, if_neg (by omega)]
  · exact absurd (show (0 : Int32) ≤ 0 by decide) hb
theorem w_failD (st : St) {f : Nat} (hf : st.1 31 12 = nI f) (h0 : 1 ≤ f) (h9 : f < 10) (k : Int32) : Mv l D cy 0 YX12_fail [.ref 31, .int k] st (fun u => u = st) := by
  refine M.ofG [some (.ref 31), some (.int k)] (by decide) (Nat.le_of_ble_eq_true rfl) rfl ?_
  intro xp xe xs xm xa xb xme xc xad xA
  refine g_ald0 eX12_fail_0 ?_
  refine g_getI (ci := 11) (j := 12) rfl (Nat.le_of_ble_eq_true rfl) (Nat.le_of_ble_eq_true rfl) (Nat.le_of_ble_eq_true rfl) rfl fl_X12_217 eX12_fail_1 ?_
  rw [hf]
  refine g_if_le eX12_fail_4 (fun hb => ?_) (fun hb => ?_)
  · exact absurd hb (nI_nle (by omega) (by omega))
  · exact g_vret rfl eX12_fail_7 ⟨rfl, rfl⟩
/-- goes on or fails -/
def exP (K P : Nat → Nat) (st : St) (R : GR) (A : EA) (u : St) : Prop := match R with
  | .inl e => exD P st u e ∧ u.1 31 49 = st.1 31 49
  | .inr s => exFr st u ∧ exOK K u (s, A.2)
theorem w_goesOn (st : St) {A : EA} (hS : tvM K P V W st) (h : exOK K st A) (h0 : K A.1.1 ≠ 0 ∧ K A.1.1 ≠ 1) : Mv l D cy 1 YX12_goesOn [.ref 31] st (exP K P st (psF A.1) A) := by
  have h9 := h
  obtain ⟨⟨a1, a2, a3⟩, b, -⟩ := h
  refine M.ofG [some (.ref 31)] (by decide) (Nat.le_of_ble_eq_true rfl) rfl ?_
  intro xp xe xs xm xa xb xme xc xad xA
  unfold psF
  refine g_ald0 eX12_goesOn_0 ?_
  refine g_getI (ci := 11) (j := 10) rfl (Nat.le_of_ble_eq_true rfl) (Nat.le_of_ble_eq_true rfl) (Nat.le_of_ble_eq_true rfl) rfl fl_X12_220 eX12_goesOn_1 ?_
  rw [a1]
  refine g_sipush (v := 300) (by decide) eX12_goesOn_4 ?_
  refine g_icmp_ne eX12_goesOn_7 (fun hb => ?_) (fun hb => ?_)
  · have e : ¬ A.1.1 = 300 := fun z => hb (by rw [z]; rfl)
    rw [if_neg (by omega)]
    refine g_ald0 eX12_goesOn_18 ?_
    refine g_dup rfl eX12_goesOn_19 ?_
    refine g_getI (ci := 11) (j := 10) rfl (Nat.le_of_ble_eq_true rfl) (Nat.le_of_ble_eq_true rfl) (Nat.le_of_ble_eq_true rfl) rfl fl_X12_220 eX12_goesOn_20 ?_
    rw [a1]
    refine g_iconst (v := 1) (by decide) eX12_goesOn_23 ?_
    refine g_iadd eX12_goesOn_24 ?_
    refine g_putI (ci := 11) (j := 10) rfl rfl (Nat.le_of_ble_eq_true rfl) (Nat.le_of_ble_eq_true rfl) (Nat.le_of_ble_eq_true rfl) rfl fl_X12_220 eX12_goesOn_25 ?_
    rw [show nI A.1.1 + 1 = nI (A.1.1 + 1) from nI_1 _]
    refine g_vret rfl eX12_goesOn_28 ⟨rfl, ?_⟩
    try dsimp only
    refine ⟨exFr_f _ _ (by omega), ex_t h9 (by omega) (fun j hj => ?_)⟩
    by_cases e2 : j = A.1.1
    · rw [e2]; exact h0
    · exact a3 j (by omega)
  · have e : A.1.1 = 300 := (nI_eq (b := 300) (by omega) (by omega)).mp hb
    rw [if_pos (by omega)]
    refine g_ald0 eX12_goesOn_10 ?_
    refine g_iconst (v := 2) (by decide) eX12_goesOn_11 ?_
    refine g_callVv (ci := 11) (w_fail st hS h9 2) rfl (Nat.le_of_ble_eq_true rfl) (Nat.le_of_ble_eq_true rfl) rfl cv_X12_232 eX12_goesOn_12 ⟨Nat.le_of_ble_eq_true rfl, Nat.le_of_ble_eq_true rfl⟩ rfl rfl (Nat.le_of_ble_eq_true rfl) (fun u h => ?_)
    refine g_goto eX12_goesOn_15 ?_
    exact g_vret rfl eX12_goesOn_28 ⟨rfl, h⟩
theorem w_must (st : St) {A : EA} (hS : tvM K P V W st) (h : exOK K st A) (kc : Nat) (hkc : kc ∈ vkL) (k : Nat) (hk : mkK kc = k) (h01 : kc ≠ 0 ∧ kc ≠ 1) : Mv l D cy 2 YX12_must [.ref 31, .int (nI k)] st (exP K P st (tkF K kc A.1) A) := by
  have hv := hS A.1.1 h.1.2.1 h.1.2.2
  have hl := mkK_lt _ hkc
  refine M.ofG [some (.ref 31), some (.int (nI k))] (by decide) (Nat.le_of_ble_eq_true rfl) rfl ?_
  intro xp xe xs xm xa xb xme xc xad xA
  unfold tkF
  refine g_ald0 eX12_must_0 ?_
  refine g_ild1 eX12_must_1 ?_
  refine g_callVi (ci := 11) (w_is st hS h k (by omega)) rfl (Nat.le_of_ble_eq_true rfl) (Nat.le_of_ble_eq_true rfl) rfl cv_X12_235 eX12_must_2 ⟨Nat.le_of_ble_eq_true rfl, Nat.le_of_ble_eq_true rfl⟩ rfl rfl (Nat.le_of_ble_eq_true rfl) (fun r st h9 => ?_)
  obtain ⟨rfl, rfl⟩ := h9
  refine g_if_eq eX12_must_5 (fun hb => ?_) (fun hb => ?_)
  · rw [b2_eq0, mkK_is hv.2.2.2.2.1 hkc hk] at hb
    rw [if_neg hb]
    refine g_ald0 eX12_must_15 ?_
    refine g_iconst (v := 1) (by decide) eX12_must_16 ?_
    refine g_callVv (ci := 11) (w_fail st hS h 1) rfl (Nat.le_of_ble_eq_true rfl) (Nat.le_of_ble_eq_true rfl) rfl cv_X12_232 eX12_must_17 ⟨Nat.le_of_ble_eq_true rfl, Nat.le_of_ble_eq_true rfl⟩ rfl rfl (Nat.le_of_ble_eq_true rfl) (fun u h => ?_)
    exact g_vret rfl eX12_must_20 ⟨rfl, h⟩
  · rw [b2_ne0, mkK_is hv.2.2.2.2.1 hkc hk] at hb
    rw [if_pos hb]
    refine g_ald0 eX12_must_8 ?_
    refine g_callVv (ci := 11) (w_goesOn st hS h (by rw [hb]; exact h01)) rfl (Nat.le_of_ble_eq_true rfl) (Nat.le_of_ble_eq_true rfl) rfl cv_X12_238 eX12_must_9 ⟨Nat.le_of_ble_eq_true rfl, Nat.le_of_ble_eq_true rfl⟩ rfl rfl (Nat.le_of_ble_eq_true rfl) (fun u h => ?_)
    refine g_goto eX12_must_12 ?_
    exact g_vret rfl eX12_must_20 ⟨rfl, h⟩
theorem w_mustD (st : St) {f : Nat} (hf : st.1 31 12 = nI f) (h0 : 1 ≤ f) (h9 : f < 10) (k : Int32) : Mv l D cy 2 YX12_must [.ref 31, .int k] st (fun u => u = st) := by
  refine M.ofG [some (.ref 31), some (.int k)] (by decide) (Nat.le_of_ble_eq_true rfl) rfl ?_
  intro xp xe xs xm xa xb xme xc xad xA
  refine g_ald0 eX12_must_0 ?_
  refine g_ild1 eX12_must_1 ?_
  refine g_callVi (ci := 11) (w_isD st hf h0 h9 k) rfl (Nat.le_of_ble_eq_true rfl) (Nat.le_of_ble_eq_true rfl) rfl cv_X12_235 eX12_must_2 ⟨Nat.le_of_ble_eq_true rfl, Nat.le_of_ble_eq_true rfl⟩ rfl rfl (Nat.le_of_ble_eq_true rfl) (fun r st h => ?_)
  obtain ⟨rfl, rfl⟩ := h
  refine g_if_eq eX12_must_5 (fun hb => ?_) (fun hb => ?_)
  · refine g_ald0 eX12_must_15 ?_
    refine g_iconst (v := 1) (by decide) eX12_must_16 ?_
    refine g_callVv (ci := 11) (w_failD st hf h0 h9 1) rfl (Nat.le_of_ble_eq_true rfl) (Nat.le_of_ble_eq_true rfl) rfl cv_X12_232 eX12_must_17 ⟨Nat.le_of_ble_eq_true rfl, Nat.le_of_ble_eq_true rfl⟩ rfl rfl (Nat.le_of_ble_eq_true rfl) (fun u h => ?_)
    subst h
    exact g_vret rfl eX12_must_20 ⟨rfl, rfl⟩
  · exact absurd rfl hb
theorem w_emit (st : St) {A : EA} (h : exOK K st A) (hl : A.2.2.1.length < 400) (a b : Nat) (aI bI : Int32) (ha : aI = nI a) (hb : bI = nI b) : Mv l D cy 0 YX12_emit [.ref 31, .int aI, .int bI] st (fun u => exFr st u ∧ exOK K u (A.1, A.2.1, A.2.2.1 ++ [(a, b)], A.2.2.2)) := by
  subst ha
  subst hb
  obtain ⟨x1, x2, x3, ⟨c1, c2⟩, x5, x6⟩ := h
  have hin : vp_in (nI A.2.2.1.length) 400 := vp_in_nI (by omega) (by decide)
  have hcl : (nI A.2.2.1.length).toNatClampNeg = A.2.2.1.length := nI_clamp (by omega)
  refine M.ofG [some (.ref 31), some (.int (nI a)), some (.int (nI b))] (by decide) (Nat.le_of_ble_eq_true rfl) rfl ?_
  intro xp xe xs xm xa xb xme xc xad xA
  refine g_ald0 eX12_emit_0 ?_
  refine g_getR (ci := 11) (j := 45) rfl (Nat.le_of_ble_eq_true rfl) (Nat.le_of_ble_eq_true rfl) (Nat.le_of_ble_eq_true rfl) rfl rfl fl_X12_91 eX12_emit_1 ?_
  refine g_ald0 eX12_emit_4 ?_
  refine g_getI (ci := 11) (j := 44) rfl (Nat.le_of_ble_eq_true rfl) (Nat.le_of_ble_eq_true rfl) (Nat.le_of_ble_eq_true rfl) rfl fl_X12_268 eX12_emit_5 ?_
  rw [c1]
  refine g_ild1 eX12_emit_8 ?_
  refine g_iast rfl (Nat.le_of_ble_eq_true rfl) hin eX12_emit_9 ?_
  refine g_ald0 eX12_emit_10 ?_
  refine g_getR (ci := 11) (j := 46) rfl (Nat.le_of_ble_eq_true rfl) (Nat.le_of_ble_eq_true rfl) (Nat.le_of_ble_eq_true rfl) rfl rfl fl_X12_94 eX12_emit_11 ?_
  refine g_ald0 eX12_emit_14 ?_
  refine g_getI (ci := 11) (j := 44) rfl (Nat.le_of_ble_eq_true rfl) (Nat.le_of_ble_eq_true rfl) (Nat.le_of_ble_eq_true rfl) rfl fl_X12_268 eX12_emit_15 ?_
  rw [hcl, show (sI st 57 A.2.2.1.length (nI a)).1 31 44 = nI A.2.2.1.length from c1]
  refine g_ild2 eX12_emit_18 ?_
  refine g_iast rfl (Nat.le_of_ble_eq_true rfl) hin eX12_emit_19 ?_
  refine g_ald0 eX12_emit_20 ?_
  refine g_dup rfl eX12_emit_21 ?_
  refine g_getI (ci := 11) (j := 44) rfl (Nat.le_of_ble_eq_true rfl) (Nat.le_of_ble_eq_true rfl) (Nat.le_of_ble_eq_true rfl) rfl fl_X12_268 eX12_emit_22 ?_
  rw [hcl, show (sI (sI st 57 A.2.2.1.length (nI a)) 58 A.2.2.1.length (nI b)).1 31 44 = nI A.2.2.1.length from c1]
  refine g_iconst (v := 1) (by decide) eX12_emit_25 ?_
  refine g_iadd eX12_emit_26 ?_
  refine g_putI (ci := 11) (j := 44) rfl rfl (Nat.le_of_ble_eq_true rfl) (Nat.le_of_ble_eq_true rfl) (Nat.le_of_ble_eq_true rfl) rfl fl_X12_268 eX12_emit_27 ?_
  rw [show nI A.2.2.1.length + 1 = nI (A.2.2.1.length + 1) from nI_1 _]
  refine g_vret rfl eX12_emit_30 ⟨rfl, ?_⟩
  try dsimp only
  have hrow : ∀ j, j ≠ 44 → (sI (sI (sI st 57 A.2.2.1.length (nI a)) 58 A.2.2.1.length (nI b)) 31 44 (nI (A.2.2.1.length + 1))).1 31 j = st.1 31 j := fun j hj => by rw [sI_1, if_neg (by omega), sI_row (by decide), sI_row (by decide)]
  refine ⟨((exFr_r _ _ (by omega)).trans (exFr_r _ _ (by omega))).trans (exFr_f _ _ (by omega)), ⟨?_, x1.2⟩, ?_, ?_, ⟨?_, fun j hj => ?_⟩, ⟨?_, fun q => ?_, x5.2.2⟩, ⟨?_, x6.2⟩⟩
  · rw [hrow _ (by decide)]; exact x1.1
  · rw [hrow _ (by decide)]; exact x2
  · rw [hrow _ (by decide)]; exact x3
  · rw [sI_1, if_pos ⟨rfl, rfl⟩]
    show _ = nI (A.2.2.1 ++ [(a, b)]).length
    rw [List.length_append]; rfl
  · have hj2 : j < (A.2.2.1 ++ [(a, b)]).length := hj
    rw [List.length_append, List.length_singleton] at hj2
    rw [sI_row (a := 57) (by decide), sI_row (a := 57) (by decide), sI_at, sI_row (a := 58) (by decide), sI_at, sI_row (a := 58) (by decide)]
    show _ = nI ((A.2.2.1 ++ [(a, b)]).getD j (0, 0)).1 ∧ _ = nI ((A.2.2.1 ++ [(a, b)]).getD j (0, 0)).2
    rw [getD_app]
    by_cases e : j = A.2.2.1.length
    · simp only [if_pos e, if_neg (show ¬ j < A.2.2.1.length by omega)]
      exact ⟨by trivial, by trivial⟩
    · simp only [if_neg e, if_pos (show j < A.2.2.1.length by omega)]
      exact c2 j (by omega)
  · rw [hrow _ (by decide)]; exact x5.1
  · rw [hrow _ (by decide)]; exact x5.2.1 q
  · rw [hrow _ (by decide)]; exact x6.1
theorem w_waitsFor (st : St) {A : EA} (h : exOK K st A) (hl : A.2.2.2.2.length < 320) (a b c : Nat) (aI bI : Int32) (ha : aI = nI a) (hb : bI = nI b) : Mv l D cy 0 YX12_waitsFor [.ref 31, .int aI, .int bI] st (fun u => exFr st u ∧ exOK K u (A.1, A.2.1, A.2.2.1, A.2.2.2.1, (a, b, c) :: A.2.2.2.2)) := by
  subst ha
  subst hb
  obtain ⟨x1, x2, x3, x4, x5, ⟨c1, c2⟩⟩ := h
  have hin : vp_in (nI A.2.2.2.2.length) 320 := vp_in_nI (by omega) (by decide)
  have hcl : (nI A.2.2.2.2.length).toNatClampNeg = A.2.2.2.2.length := nI_clamp (by omega)
  refine M.ofG [some (.ref 31), some (.int (nI a)), some (.int (nI b))] (by decide) (Nat.le_of_ble_eq_true rfl) rfl ?_
  intro xp xe xs xm xa xb xme xc xad xA
  refine g_ald0 eX12_waitsFor_0 ?_
  refine g_getR (ci := 11) (j := 47) rfl (Nat.le_of_ble_eq_true rfl) (Nat.le_of_ble_eq_true rfl) (Nat.le_of_ble_eq_true rfl) rfl rfl fl_X12_97 eX12_waitsFor_1 ?_
  refine g_ald0 eX12_waitsFor_4 ?_
  refine g_getI (ci := 11) (j := 49) rfl (Nat.le_of_ble_eq_true rfl) (Nat.le_of_ble_eq_true rfl) (Nat.le_of_ble_eq_true rfl) rfl fl_X12_314 eX12_waitsFor_5 ?_
  rw [c1]
  refine g_ild1 eX12_waitsFor_8 ?_
  refine g_iast rfl (Nat.le_of_ble_eq_true rfl) hin eX12_waitsFor_9 ?_
  refine g_ald0 eX12_waitsFor_10 ?_
  refine g_getR (ci := 11) (j := 48) rfl (Nat.le_of_ble_eq_true rfl) (Nat.le_of_ble_eq_true rfl) (Nat.le_of_ble_eq_true rfl) rfl rfl fl_X12_100 eX12_waitsFor_11 ?_
  refine g_ald0 eX12_waitsFor_14 ?_
  refine g_getI (ci := 11) (j := 49) rfl (Nat.le_of_ble_eq_true rfl) (Nat.le_of_ble_eq_true rfl) (Nat.le_of_ble_eq_true rfl) rfl fl_X12_314 eX12_waitsFor_15 ?_
  rw [hcl, show (sI st 59 A.2.2.2.2.length (nI a)).1 31 49 = nI A.2.2.2.2.length from c1]
  refine g_ild2 eX12_waitsFor_18 ?_
  refine g_iast rfl (Nat.le_of_ble_eq_true rfl) hin eX12_waitsFor_19 ?_
  refine g_ald0 eX12_waitsFor_20 ?_
  refine g_dup rfl eX12_waitsFor_21 ?_
  refine g_getI (ci := 11) (j := 49) rfl (Nat.le_of_ble_eq_true rfl) (Nat.le_of_ble_eq_true rfl) (Nat.le_of_ble_eq_true rfl) rfl fl_X12_314 eX12_waitsFor_22 ?_
  rw [hcl, show (sI (sI st 59 A.2.2.2.2.length (nI a)) 60 A.2.2.2.2.length (nI b)).1 31 49 = nI A.2.2.2.2.length from c1]
  refine g_iconst (v := 1) (by decide) eX12_waitsFor_25 ?_
  refine g_iadd eX12_waitsFor_26 ?_
  refine g_putI (ci := 11) (j := 49) rfl rfl (Nat.le_of_ble_eq_true rfl) (Nat.le_of_ble_eq_true rfl) (Nat.le_of_ble_eq_true rfl) rfl fl_X12_314 eX12_waitsFor_27 ?_
  rw [show nI A.2.2.2.2.length + 1 = nI (A.2.2.2.2.length + 1) from nI_1 _]
  refine g_vret rfl eX12_waitsFor_30 ⟨rfl, ?_⟩
  try dsimp only
  have hrow : ∀ j, j ≠ 49 → (sI (sI (sI st 59 A.2.2.2.2.length (nI a)) 60 A.2.2.2.2.length (nI b)) 31 49 (nI (A.2.2.2.2.length + 1))).1 31 j = st.1 31 j := fun j hj => by rw [sI_1, if_neg (by omega), sI_row (by decide), sI_row (by decide)]
  refine ⟨((exFr_r _ _ (by omega)).trans (exFr_r _ _ (by omega))).trans (exFr_f _ _ (by omega)), ⟨?_, x1.2⟩, ?_, ?_, ⟨?_, x4.2⟩, ⟨?_, fun q => ?_, x5.2.2⟩, ⟨?_, fun j hj => ?_⟩⟩
  · rw [hrow _ (by decide)]; exact x1.1
  · rw [hrow _ (by decide)]; exact x2
  · rw [hrow _ (by decide)]; exact x3
  · rw [hrow _ (by decide)]; exact x4.1
  · rw [hrow _ (by decide)]; exact x5.1
  · rw [hrow _ (by decide)]; exact x5.2.1 q
  · rw [sI_1, if_pos ⟨rfl, rfl⟩]; rfl
  · have hj2 : j < ((a, b, c) :: A.2.2.2.2).length := hj
    rw [List.length_cons] at hj2
    rw [sI_row (a := 59) (by decide), sI_row (a := 59) (by decide), sI_at, sI_row (a := 60) (by decide), sI_at, sI_row (a := 60) (by decide)]
    show _ = nI (((a, b, c) :: A.2.2.2.2).getD (((a, b, c) :: A.2.2.2.2).length - 1 - j) (0, 0, 0)).1 ∧ _ = nI (((a, b, c) :: A.2.2.2.2).getD (((a, b, c) :: A.2.2.2.2).length - 1 - j) (0, 0, 0)).2.1
    rw [List.length_cons]
    by_cases e : j = A.2.2.2.2.length
    · rw [if_pos e, if_pos e, show A.2.2.2.2.length + 1 - 1 - j = 0 by omega]
      exact ⟨rfl, rfl⟩
    · rw [if_neg e, if_neg e, show A.2.2.2.2.length + 1 - 1 - j = (A.2.2.2.2.length - 1 - j) + 1 by omega]
      exact c2 j (by omega)
theorem w_waitsForD (st : St) {n : Nat} (h : st.1 31 49 = nI n) (hl : n < 320) (a b : Int32) : Mv l D cy 0 YX12_waitsFor [.ref 31, .int a, .int b] st (fun u => exFr st u ∧ u.1 31 12 = st.1 31 12 ∧ u.1 31 13 = st.1 31 13) := by
  have hin : vp_in (nI n) 320 := vp_in_nI (by omega) (by decide)
  refine M.ofG [some (.ref 31), some (.int a), some (.int b)] (by decide) (Nat.le_of_ble_eq_true rfl) rfl ?_
  intro xp xe xs xm xa xb xme xc xad xA
  refine g_ald0 eX12_waitsFor_0 ?_
  refine g_getR (ci := 11) (j := 47) rfl (Nat.le_of_ble_eq_true rfl) (Nat.le_of_ble_eq_true rfl) (Nat.le_of_ble_eq_true rfl) rfl rfl fl_X12_97 eX12_waitsFor_1 ?_
  refine g_ald0 eX12_waitsFor_4 ?_
  refine g_getI (ci := 11) (j := 49) rfl (Nat.le_of_ble_eq_true rfl) (Nat.le_of_ble_eq_true rfl) (Nat.le_of_ble_eq_true rfl) rfl fl_X12_314 eX12_waitsFor_5 ?_
  rw [h]
  refine g_ild1 eX12_waitsFor_8 ?_
  refine g_iast rfl (Nat.le_of_ble_eq_true rfl) hin eX12_waitsFor_9 ?_
  refine g_ald0 eX12_waitsFor_10 ?_
  refine g_getR (ci := 11) (j := 48) rfl (Nat.le_of_ble_eq_true rfl) (Nat.le_of_ble_eq_true rfl) (Nat.le_of_ble_eq_true rfl) rfl rfl fl_X12_100 eX12_waitsFor_11 ?_
  refine g_ald0 eX12_waitsFor_14 ?_
  refine g_getI (ci := 11) (j := 49) rfl (Nat.le_of_ble_eq_true rfl) (Nat.le_of_ble_eq_true rfl) (Nat.le_of_ble_eq_true rfl) rfl fl_X12_314 eX12_waitsFor_15 ?_
  rw [show (sI st 59 (nI n).toNatClampNeg a).1 31 49 = nI n from h]
  refine g_ild2 eX12_waitsFor_18 ?_
  refine g_iast rfl (Nat.le_of_ble_eq_true rfl) hin eX12_waitsFor_19 ?_
  refine g_ald0 eX12_waitsFor_20 ?_
  refine g_dup rfl eX12_waitsFor_21 ?_
  refine g_getI (ci := 11) (j := 49) rfl (Nat.le_of_ble_eq_true rfl) (Nat.le_of_ble_eq_true rfl) (Nat.le_of_ble_eq_true rfl) rfl fl_X12_314 eX12_waitsFor_22 ?_
  refine g_iconst (v := 1) (by decide) eX12_waitsFor_25 ?_
  refine g_iadd eX12_waitsFor_26 ?_
  refine g_putI (ci := 11) (j := 49) rfl rfl (Nat.le_of_ble_eq_true rfl) (Nat.le_of_ble_eq_true rfl) (Nat.le_of_ble_eq_true rfl) rfl fl_X12_314 eX12_waitsFor_27 ?_
  refine g_vret rfl eX12_waitsFor_30 ⟨rfl, ?_⟩
  try dsimp only
  refine ⟨((exFr_r _ _ (by omega)).trans (exFr_r _ _ (by omega))).trans (exFr_f _ _ (by omega)), ?_, ?_⟩
  · rw [sI_1, if_neg (by omega)]; rfl
  · rw [sI_1, if_neg (by omega)]; rfl
theorem w_waitsOn (st : St) {A : EA} (h : exOK K st A) (hl : A.2.2.2.2.length < 320) (hk9 : ∀ x ∈ A.2.2.2.2, x.1 < 100) (k : Nat) (hk : k < 100) (hk0 : 0 < k) : Mi l D cy 0 YX12_waitsOn [.ref 31, .int (nI k)] st (fun r u => u = st ∧ r = b2 ((A.2.2.2.2.getD 0 (0, 0, 0)).1 = k)) := by
  obtain ⟨x1, x2, x3, x4, x5, ⟨c1, c2⟩⟩ := h
  refine M.ofG [some (.ref 31), some (.int (nI k))] (by decide) (Nat.le_of_ble_eq_true rfl) rfl ?_
  intro xp xe xs xm xa xb xme xc xad xA
  refine g_ald0 eX12_waitsOn_0 ?_
  refine g_getI (ci := 11) (j := 49) rfl (Nat.le_of_ble_eq_true rfl) (Nat.le_of_ble_eq_true rfl) (Nat.le_of_ble_eq_true rfl) rfl fl_X12_314 eX12_waitsOn_1 ?_
  rw [c1]
  rcases hW : A.2.2.2.2 with _ | ⟨x, r⟩
  · rw [hW] at hl
    refine g_if_le eX12_waitsOn_4 (fun hb => ?_) (fun hb => ?_)
    · refine g_iconst (v := 0) (by decide) eX12_waitsOn_26 ?_
      exact g_zret (ty := .boolean) rfl (by first | rfl | assumption) eX12_waitsOn_27 ⟨_, rfl, ⟨rfl, b2_f (by show ¬ (0 = k); omega)⟩⟩
    · exact absurd (show nI 0 ≤ 0 by decide) hb
  · rw [hW] at c1 c2 hl hk9
    rw [List.length_cons] at hl c1 ⊢
    have hx := hk9 x List.mem_cons_self
    refine g_if_le eX12_waitsOn_4 (fun hb => ?_) (fun hb => ?_)
    · exact absurd hb (nI_nle (by omega) (by omega))
    · refine g_ald0 eX12_waitsOn_7 ?_
      refine g_getR (ci := 11) (j := 47) rfl (Nat.le_of_ble_eq_true rfl) (Nat.le_of_ble_eq_true rfl) (Nat.le_of_ble_eq_true rfl) rfl rfl fl_X12_97 eX12_waitsOn_8 ?_
      refine g_ald0 eX12_waitsOn_11 ?_
      refine g_getI (ci := 11) (j := 49) rfl (Nat.le_of_ble_eq_true rfl) (Nat.le_of_ble_eq_true rfl) (Nat.le_of_ble_eq_true rfl) rfl fl_X12_314 eX12_waitsOn_12 ?_
      rw [c1]
      refine g_iconst (v := 1) (by decide) eX12_waitsOn_15 ?_
      refine g_isub eX12_waitsOn_16 ?_
      rw [show nI (r.length + 1) - 1 = nI r.length from nI_pred _]
      refine g_iald rfl (Nat.le_of_ble_eq_true rfl) (vp_in_nI (n := r.length) (N := 320) (by omega) (by decide)) eX12_waitsOn_17 ?_
      rw [nI_clamp (by omega), (c2 r.length (by rw [List.length_cons]; omega)).1, show (x :: r).length - 1 - r.length = 0 by rw [List.length_cons]; omega]
      refine g_ild1 eX12_waitsOn_18 ?_
      refine g_icmp_ne eX12_waitsOn_19 (fun hb2 => ?_) (fun hb2 => ?_)
      · have e : ¬ x.1 = k := fun q => hb2 (by show nI x.1 = nI k; rw [q])
        refine g_iconst (v := 0) (by decide) eX12_waitsOn_26 ?_
        exact g_zret (ty := .boolean) rfl (by first | rfl | assumption) eX12_waitsOn_27 ⟨_, rfl, ⟨rfl, b2_f e⟩⟩
      · have e : x.1 = k := (nI_eq (a := x.1) (b := k) (by omega) (by omega)).mp hb2
        refine g_iconst (v := 1) (by decide) eX12_waitsOn_22 ?_
        refine g_goto eX12_waitsOn_23 ?_
        exact g_zret (ty := .boolean) rfl (by first | rfl | assumption) eX12_waitsOn_27 ⟨_, rfl, ⟨rfl, b2_t e⟩⟩
/-- the worse of two -/
def wrg (w : Nat × Nat) (k p : Nat) : Nat × Nat := if w.1 ≠ 0 ∧ (w.2 < p ∨ p = w.2 ∧ w.1 ≤ k) then w else (k, p)
theorem w_wrong (st : St) {A : EA} (hS : tvM K P V W st) (h : exOK K st A) (k : Nat) (hk : k < 10) (tok : Nat) (ht : tok ≤ 300) (hj : ∀ j, j < tok → K j ≠ 0 ∧ K j ≠ 1) (kI : Int32) (hkI : kI = nI k) : Mv l D cy 0 YX12_wrong [.ref 31, .int kI, .int (nI tok)] st (fun u => exFr st u ∧ exOK K u (A.1, A.2.1, A.2.2.1, wrg A.2.2.2.1 k (P tok), A.2.2.2.2)) := by
  subst hkI
  have h9 := h
  obtain ⟨x1, x2, x3, x4, ⟨y1, y2, y3, y4⟩, x6⟩ := h
  have hv := hS tok ht hj
  have hP := hv.2.2.2.2.2.1
  have hs : exOK K (sI (sI st 31 14 (nI k)) 31 15 (nI (P tok))) (A.1, A.2.1, A.2.2.1, (k, P tok), A.2.2.2.2) := by
    have hrow : ∀ j, j ≠ 14 → j ≠ 15 → (sI (sI st 31 14 (nI k)) 31 15 (nI (P tok))).1 31 j = st.1 31 j := fun j h1 h2 => by rw [sI_1, if_neg (by omega), sI_1, if_neg (by omega)]
    refine ⟨⟨?_, x1.2⟩, ?_, ?_, ⟨?_, x4.2⟩, ⟨?_, fun q => ?_, hk, hP⟩, ⟨?_, x6.2⟩⟩
    · rw [hrow _ (by decide) (by decide)]; exact x1.1
    · rw [hrow _ (by decide) (by decide)]; exact x2
    · rw [hrow _ (by decide) (by decide)]; exact x3
    · rw [hrow _ (by decide) (by decide)]; exact x4.1
    · rw [sI_1, if_neg (by omega), sI_1, if_pos ⟨rfl, rfl⟩]
    · rw [sI_1, if_pos ⟨rfl, rfl⟩]
    · rw [hrow _ (by decide) (by decide)]; exact x6.1
  have hsf : exFr st (sI (sI st 31 14 (nI k)) 31 15 (nI (P tok))) := (exFr_f _ _ (by omega)).trans (exFr_f _ _ (by omega))
  refine M.ofG [some (.ref 31), some (.int (nI k)), some (.int (nI tok)), none] (by decide) (Nat.le_of_ble_eq_true rfl) rfl ?_
  intro xp xe xs xm xa xb xme xc xad xA
  have set : ¬ (A.2.2.2.1.1 ≠ 0 ∧ (A.2.2.2.1.2 < P tok ∨ P tok = A.2.2.2.1.2 ∧ A.2.2.2.1.1 ≤ k)) → G xp l xe (rmd (0)) xs xm xa xb xme xc D cy xad xA (YX12_wrong.2.1, YX12_wrong.1.cls, YX12_wrong.2.2.1, YX12_wrong.2.2.2) (Pv (fun (u : St) => exFr st u ∧ exOK K u (A.1, A.2.1, A.2.2.1, wrg A.2.2.2.1 k (P tok), A.2.2.2.2))) 46 ([some (.ref 31), some (.int (nI k)), some (.int (nI tok)), some (.int (nI (P tok)))]) ([]) (st) := by
    intro hc
    refine g_ald0 eX12_wrong_46 ?_
    refine g_ild1 eX12_wrong_47 ?_
    refine g_putI (ci := 11) (j := 14) rfl rfl (Nat.le_of_ble_eq_true rfl) (Nat.le_of_ble_eq_true rfl) (Nat.le_of_ble_eq_true rfl) rfl fl_X12_226 eX12_wrong_48 ?_
    refine g_ald0 eX12_wrong_51 ?_
    refine g_ild3 eX12_wrong_52 ?_
    refine g_putI (ci := 11) (j := 15) rfl rfl (Nat.le_of_ble_eq_true rfl) (Nat.le_of_ble_eq_true rfl) (Nat.le_of_ble_eq_true rfl) rfl fl_X12_229 eX12_wrong_53 ?_
    refine g_vret rfl eX12_wrong_56 ⟨rfl, ?_⟩
    try dsimp only
    unfold wrg
    rw [if_neg hc]
    exact ⟨hsf, hs⟩
  have keep : A.2.2.2.1.1 ≠ 0 ∧ (A.2.2.2.1.2 < P tok ∨ P tok = A.2.2.2.1.2 ∧ A.2.2.2.1.1 ≤ k) → G xp l xe (rmd (0)) xs xm xa xb xme xc D cy xad xA (YX12_wrong.2.1, YX12_wrong.1.cls, YX12_wrong.2.2.1, YX12_wrong.2.2.2) (Pv (fun (u : St) => exFr st u ∧ exOK K u (A.1, A.2.1, A.2.2.1, wrg A.2.2.2.1 k (P tok), A.2.2.2.2))) 45 ([some (.ref 31), some (.int (nI k)), some (.int (nI tok)), some (.int (nI (P tok)))]) ([]) (st) := by
    intro hc
    refine g_vret rfl eX12_wrong_45 ⟨rfl, ?_⟩
    try dsimp only
    unfold wrg
    rw [if_pos hc]
    exact ⟨exFr.refl _, h9⟩
  refine g_ald0 eX12_wrong_0 ?_
  refine g_getR (ci := 11) (j := 5) rfl (Nat.le_of_ble_eq_true rfl) (Nat.le_of_ble_eq_true rfl) (Nat.le_of_ble_eq_true rfl) rfl rfl fl_X12_20 eX12_wrong_1 ?_
  refine g_ild2 eX12_wrong_4 ?_
  refine g_iald rfl (Nat.le_of_ble_eq_true rfl) (vp_in_nI (n := tok) (N := 303) (by omega) (by decide)) eX12_wrong_5 ?_
  rw [nI_clamp (by omega), hv.2.1]
  refine g_ist3 rfl (Nat.le_of_ble_eq_true rfl) eX12_wrong_6 ?_
  refine g_ald0 eX12_wrong_7 ?_
  refine g_getI (ci := 11) (j := 12) rfl (Nat.le_of_ble_eq_true rfl) (Nat.le_of_ble_eq_true rfl) (Nat.le_of_ble_eq_true rfl) rfl fl_X12_217 eX12_wrong_8 ?_
  rw [x2]
  refine g_if_gt eX12_wrong_11 (fun hb => ?_) (fun hb => ?_)
  · exact absurd hb (by decide)
  · refine g_ald0 eX12_wrong_14 ?_
    refine g_getI (ci := 11) (j := 14) rfl (Nat.le_of_ble_eq_true rfl) (Nat.le_of_ble_eq_true rfl) (Nat.le_of_ble_eq_true rfl) rfl fl_X12_226 eX12_wrong_15 ?_
    rw [y1]
    refine g_if_eq eX12_wrong_18 (fun hb2 => ?_) (fun hb2 => ?_)
    · have e : A.2.2.2.1.1 = 0 := (nI_eq (b := 0) (by omega) (by omega)).mp hb2
      exact set (fun q => q.1 e)
    · have e : A.2.2.2.1.1 ≠ 0 := fun q => hb2 (by rw [q]; rfl)
      refine g_ild3 eX12_wrong_21 ?_
      refine g_ald0 eX12_wrong_22 ?_
      refine g_getI (ci := 11) (j := 15) rfl (Nat.le_of_ble_eq_true rfl) (Nat.le_of_ble_eq_true rfl) (Nat.le_of_ble_eq_true rfl) rfl fl_X12_229 eX12_wrong_23 ?_
      rw [y2 e]
      refine g_icmp_gt eX12_wrong_26 (fun hb3 => ?_) (fun hb3 => ?_)
      · rw [nI_ltI (by omega) (by omega)] at hb3
        exact keep ⟨e, Or.inl hb3⟩
      · rw [nI_ltI (by omega) (by omega)] at hb3
        refine g_ild3 eX12_wrong_29 ?_
        refine g_ald0 eX12_wrong_30 ?_
        refine g_getI (ci := 11) (j := 15) rfl (Nat.le_of_ble_eq_true rfl) (Nat.le_of_ble_eq_true rfl) (Nat.le_of_ble_eq_true rfl) rfl fl_X12_229 eX12_wrong_31 ?_
        rw [y2 e]
        refine g_icmp_ne eX12_wrong_34 (fun hb4 => ?_) (fun hb4 => ?_)
        · rw [nI_eq (by omega) (by omega)] at hb4
          exact set (by omega)
        · rw [nI_eq (by omega) (by omega)] at hb4
          refine g_ild1 eX12_wrong_37 ?_
          refine g_ald0 eX12_wrong_38 ?_
          refine g_getI (ci := 11) (j := 14) rfl (Nat.le_of_ble_eq_true rfl) (Nat.le_of_ble_eq_true rfl) (Nat.le_of_ble_eq_true rfl) rfl fl_X12_226 eX12_wrong_39 ?_
          rw [y1]
          refine g_icmp_lt eX12_wrong_42 (fun hb5 => ?_) (fun hb5 => ?_)
          · rw [nI_ltI (by omega) (by omega)] at hb5
            exact set (by omega)
          · rw [nI_ltI (by omega) (by omega)] at hb5
            exact keep ⟨e, Or.inr ⟨hb4, by omega⟩⟩
end PARM
