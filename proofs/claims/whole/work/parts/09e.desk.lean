/-! SealedSums$Desk: object 24, t is its int 0; c 25, bound 26, firstOuts 27 -/
section DESK
variable {l : Launch} {D : va_G} {cy : Nat → ClassId}
theorem inc1 (w : Nat) : nI w + Int32.ofInt 1 = nI (w + 1) := nI_1 w
theorem sR_at (st : St) (k : Nat) (f : Nat → Int32) : (sR st k f).1 k = f := by rw [sR_1, if_pos rfl]
theorem sR_ne {st : St} {k : Nat} {f : Nat → Int32} {a : Nat} (h : a ≠ k) : (sR st k f).1 a = st.1 a := by rw [sR_1, if_neg h]
theorem sI_sR (st : St) (k : Nat) (f : Nat → Int32) (j : Nat) (x : Int32) : sI (sR st k f) k j x = sR st k (upd f j x) := by
  refine St_ext (fun a b => ?_) (fun _ _ => rfl)
  simp only [sI_1, sR_1]
  by_cases h : a = k
  · subst h
    simp [upd]
  · simp [h]
theorem sI_row_eq (st : St) (k j : Nat) (x : Int32) : sI st k j x = sR st k (upd (st.1 k) j x) := by
  have h := sI_sR st k (st.1 k) j x
  rw [sR_same] at h
  exact h
theorem sR_sR (st : St) (k : Nat) (f g : Nat → Int32) : sR (sR st k f) k g = sR st k g := by
  refine St_ext (fun a b => ?_) (fun _ _ => rfl)
  simp only [sR_1]
  split <;> rfl
theorem sR_comm (st : St) {k m0 : Nat} (h : k ≠ m0) (f g : Nat → Int32) : sR (sR st k f) m0 g = sR (sR st m0 g) k f := by
  refine St_ext (fun a b => ?_) (fun _ _ => rfl)
  simp only [sR_1]
  by_cases h1 : a = m0
  · subst h1
    simp [Ne.symm h]
  · simp [h1]
/-- T^k for k up to 6 -/
theorem pow_le6 {t : Int} (ht : 2 ≤ t ∧ t ≤ 13) {k : Nat} (hk : k ≤ 6) : 1 ≤ t ^ k ∧ t ^ k ≤ 4826809 := by
  have h : t = 2 ∨ t = 3 ∨ t = 4 ∨ t = 5 ∨ t = 6 ∨ t = 7 ∨ t = 8 ∨ t = 9 ∨ t = 10 ∨ t = 11 ∨ t = 12 ∨ t = 13 := by omega
  have hk2 : k = 0 ∨ k = 1 ∨ k = 2 ∨ k = 3 ∨ k = 4 ∨ k = 5 ∨ k = 6 := by omega
  rcases h with rfl | rfl | rfl | rfl | rfl | rfl | rfl | rfl | rfl | rfl | rfl | rfl <;> rcases hk2 with rfl | rfl | rfl | rfl | rfl | rfl | rfl <;> decide
abbrev tOK (x : Int32) : Prop := 2 ≤ x.toInt ∧ x.toInt ≤ 13
theorem m_plainInputs (st : St) (n : Nat) (hn : n ≤ 6) (ht : tOK (st.1 24 0)) : Mi l D cy 0 YX0_plainInputs [.ref 24, .int (nI n)] st (fun r u => u = st ∧ r.toInt = (st.1 24 0).toInt ^ n) := by
  refine M.ofG [some (.ref 24), some (.int (nI n)), none, none] (by decide) (Nat.le_of_ble_eq_true rfl) rfl ?_
  intro xp xe xs xm xa xb xme xc xad xA
  have loop : ∀ (f k : Nat) (a : Int32), k + f = n → a.toInt = (st.1 24 0).toInt ^ k → G xp l xe (rmd (0)) xs xm xa xb xme xc D cy xad xA (YX0_plainInputs.2.1, YX0_plainInputs.1.cls, YX0_plainInputs.2.2.1, YX0_plainInputs.2.2.2) (Pi (fun (r : Int32) (u : St) => u = st ∧ r.toInt = (st.1 24 0).toInt ^ n)) 4 ([some (.ref 24), some (.int (nI n)), some (.int a), some (.int (nI k))]) ([]) (st) := by
    intro f
    induction f with
    | zero =>
      intro k a hk ha
      refine g_ild3 eX0_plainInputs_4 ?_
      refine g_ild1 eX0_plainInputs_5 ?_
      refine g_icmp_ge eX0_plainInputs_6 (fun hb => ?_) (fun hb => ?_)
      · refine g_ild2 eX0_plainInputs_22 ?_
        refine g_iret rfl eX0_plainInputs_23 ⟨_, rfl, ?_⟩
        try dsimp only
        exact ⟨rfl, by rw [ha]; congr 1⟩
      · exact absurd (nI_le (by omega) (by omega)) hb
    | succ f ih =>
      intro k a hk ha
      refine g_ild3 eX0_plainInputs_4 ?_
      refine g_ild1 eX0_plainInputs_5 ?_
      refine g_icmp_ge eX0_plainInputs_6 (fun hb => ?_) (fun hb => ?_)
      · exact absurd hb (nI_ge (by omega) (by omega))
      · refine g_ild2 eX0_plainInputs_9 ?_
        refine g_ald0 eX0_plainInputs_10 ?_
        refine g_getI (ci := 0) (j := 0) rfl (Nat.le_of_ble_eq_true rfl) (Nat.le_of_ble_eq_true rfl) (Nat.le_of_ble_eq_true rfl) rfl fl_X0_23 eX0_plainInputs_11 ?_
        refine g_imul eX0_plainInputs_14 ?_
        refine g_ist2 rfl (Nat.le_of_ble_eq_true rfl) eX0_plainInputs_15 ?_
        refine g_inc3 rfl (Nat.le_of_ble_eq_true rfl) rfl eX0_plainInputs_16 ?_
        refine g_goto eX0_plainInputs_19 ?_
        rw [inc1]
        refine ih (k + 1) _ (by omega) ?_
        have h1 := pow_le6 ht (k := k + 1) (by omega)
        rw [Int.pow_succ] at h1 ⊢
        rw [fb_mulI, ha] <;> rw [ha] <;> omega
  refine g_iconst (v := 1) (by decide) eX0_plainInputs_0 ?_
  refine g_ist2 rfl (Nat.le_of_ble_eq_true rfl) eX0_plainInputs_1 ?_
  refine g_iconst (v := 0) (by decide) eX0_plainInputs_2 ?_
  refine g_ist3 rfl (Nat.le_of_ble_eq_true rfl) eX0_plainInputs_3 ?_
  exact loop n 0 1 (by omega) (by rw [Int.pow_zero]; rfl)
/-- the slots with the plain ins of input v -/
def plI (s : Nat → Int32) (t v : Int) (f : Nat → Int32) (n : Nat) : Prop := (∀ j, j < 40 → f j = s j) ∧ ∀ k, k < n → (f (40 + k)).toInt = v / t ^ k % t
theorem in40 {k : Nat} (hk : k < 6) : (40 : Int32) + nI k = nI (40 + k) := nI_add 40 k
set_option maxHeartbeats 4000000 in
theorem m_setPlainIns (st : St) (v : Int32) (hv : 0 ≤ v.toInt) (ht : tOK (st.1 24 0)) : Mv l D cy 1 YX0_setPlainIns [.ref 24, .int v] st (fun u => ∃ f, u = sR st 25 f ∧ plI (st.1 25) (st.1 24 0).toInt v.toInt f 6) := by
  refine M.ofG [some (.ref 24), some (.int v), none, none] (by decide) (Nat.le_of_ble_eq_true rfl) rfl ?_
  intro xp xe xs xm xa xb xme xc xad xA
  have loop : ∀ (f k : Nat) (a : Int32) (g : Nat → Int32), k + f = 6 → a.toInt = v.toInt / (st.1 24 0).toInt ^ k → plI (st.1 25) (st.1 24 0).toInt v.toInt g k → G xp l xe (rmd (1)) xs xm xa xb xme xc D cy xad xA (YX0_setPlainIns.2.1, YX0_setPlainIns.1.cls, YX0_setPlainIns.2.2.1, YX0_setPlainIns.2.2.2) (Pv (fun (u : St) => ∃ f, u = sR st 25 f ∧ plI (st.1 25) (st.1 24 0).toInt v.toInt f 6)) 4 ([some (.ref 24), some (.int v), some (.int a), some (.int (nI k))]) ([]) (sR st 25 g) := by
    intro f
    induction f with
    | zero =>
      intro k a g hk ha hg
      have hk6 : k = 6 := by omega
      subst hk6
      refine g_ild3 eX0_setPlainIns_4 ?_
      refine g_bipush (v := 6) (by decide) eX0_setPlainIns_5 ?_
      refine g_icmp_ge eX0_setPlainIns_7 (fun hb => ?_) (fun hb => ?_)
      · refine g_vret rfl eX0_setPlainIns_43 ⟨rfl, ?_⟩
        try dsimp only
        exact ⟨g, rfl, hg⟩
      · exact absurd (by decide) hb
    | succ f ih =>
      intro k a g hk ha hg
      have e24 : (sR st 25 g).1 24 = st.1 24 := sR_ne (by decide)
      refine g_ild3 eX0_setPlainIns_4 ?_
      refine g_bipush (v := 6) (by decide) eX0_setPlainIns_5 ?_
      refine g_icmp_ge eX0_setPlainIns_7 (fun hb => ?_) (fun hb => ?_)
      · exact absurd hb (nI_ge (a := k) (b := 6) (by omega) (by omega))
      · refine g_ald0 eX0_setPlainIns_10 ?_
        refine g_getR (ci := 0) (j := 1) rfl (Nat.le_of_ble_eq_true rfl) (Nat.le_of_ble_eq_true rfl) (Nat.le_of_ble_eq_true rfl) rfl rfl fl_X0_11 eX0_setPlainIns_11 ?_
        refine g_ild3 eX0_setPlainIns_14 ?_
        refine g_callSi (m_codeOfIn _ (nI k)) cs_X0_40 eX0_setPlainIns_15 ⟨Nat.le_of_ble_eq_true rfl, Nat.le_of_ble_eq_true rfl⟩ rfl rfl (Nat.le_of_ble_eq_true rfl) (fun r u hr => ?_)
        obtain ⟨rfl, rfl⟩ := hr
        refine g_ild2 eX0_setPlainIns_18 ?_
        refine g_i2l eX0_setPlainIns_19 ?_
        refine g_ald0 eX0_setPlainIns_20 ?_
        refine g_getI (ci := 0) (j := 0) rfl (Nat.le_of_ble_eq_true rfl) (Nat.le_of_ble_eq_true rfl) (Nat.le_of_ble_eq_true rfl) rfl fl_X0_23 eX0_setPlainIns_21 ?_
        rw [e24]
        refine g_callSi (m_rest _ _ _ (by omega)) cs_X0_84 eX0_setPlainIns_24 ⟨Nat.le_of_ble_eq_true rfl, Nat.le_of_ble_eq_true rfl⟩ rfl rfl (Nat.le_of_ble_eq_true rfl) (fun r2 u2 hr2 => ?_)
        obtain ⟨rfl, hr2⟩ := hr2
        rw [tl] at hr2
        rw [in40 (by omega)]
        refine g_iast rfl (Nat.le_of_ble_eq_true rfl) (vp_in_nI (n := 40 + k) (N := 46) (by omega) (by decide)) eX0_setPlainIns_27 ?_
        refine g_ild2 eX0_setPlainIns_28 ?_
        refine g_ald0 eX0_setPlainIns_29 ?_
        refine g_getI (ci := 0) (j := 0) rfl (Nat.le_of_ble_eq_true rfl) (Nat.le_of_ble_eq_true rfl) (Nat.le_of_ble_eq_true rfl) rfl fl_X0_23 eX0_setPlainIns_30 ?_
        rw [nI_clamp (by omega), sI_sR, sR_ne (by decide)]
        have h0 : 0 ≤ a.toInt := by rw [ha]; exact Int.ediv_nonneg hv (by have := pow_le6 ht (k := k) (by omega); omega)
        refine g_callSi (m_quotient _ a _ (by omega) h0) cs_X0_90 eX0_setPlainIns_33 ⟨Nat.le_of_ble_eq_true rfl, Nat.le_of_ble_eq_true rfl⟩ rfl rfl (Nat.le_of_ble_eq_true rfl) (fun r3 u3 hr3 => ?_)
        obtain ⟨rfl, hr3⟩ := hr3
        refine g_ist2 rfl (Nat.le_of_ble_eq_true rfl) eX0_setPlainIns_36 ?_
        refine g_inc3 rfl (Nat.le_of_ble_eq_true rfl) rfl eX0_setPlainIns_37 ?_
        refine g_goto eX0_setPlainIns_40 ?_
        rw [inc1]
        refine ih (k + 1) r3 _ (by omega) ?_ ⟨fun j hj => ?_, fun j hj => ?_⟩
        · rw [hr3, ha, Int.pow_succ, Int.ediv_ediv_of_nonneg (by have := pow_le6 ht (k := k) (by omega); omega)]
        · unfold upd
          rw [if_neg (by omega)]
          exact hg.1 j hj
        · unfold upd
          by_cases hjk : j = k
          · subst hjk
            rw [if_pos rfl, hr2, ha]
          · rw [if_neg (by omega)]
            exact hg.2 j (by omega)
  refine g_ild1 eX0_setPlainIns_0 ?_
  refine g_ist2 rfl (Nat.le_of_ble_eq_true rfl) eX0_setPlainIns_1 ?_
  refine g_iconst (v := 0) (by decide) eX0_setPlainIns_2 ?_
  refine g_ist3 rfl (Nat.le_of_ble_eq_true rfl) eX0_setPlainIns_3 ?_
  have go := loop 6 0 v (st.1 25) (by omega) (by rw [Int.pow_zero, Int.ediv_one]) ⟨fun _ _ => rfl, fun k hk => by omega⟩
  rw [sR_same] at go
  exact go
/-- what stands in the slots behind n works, on plain numbers or C's -/
def runSl (K A B : Nat → Int) (t : Int) (s : Nat → Int) : Nat → Nat → Int
  | 0 => s
  | n + 1 => fun j => if j = n then workF (K n) (runSl K A B t s n (A n).toNat) (if K n = 4 ∨ K n = 5 then B n else runSl K A B t s n (B n).toNat) t else runSl K A B t s n j
/-- the works of program q -/
def gK (st : St) (q : Nat) : Nat → Int := fun w => (st.1 (96 + 5 * q) w).toInt
def gA (st : St) (q : Nat) : Nat → Int := fun w => (st.1 (97 + 5 * q) w).toInt
def gB (st : St) (q : Nat) : Nat → Int := fun w => (st.1 (98 + 5 * q) w).toInt
theorem pg_in {t : Int} {st : St} {q : Nat} (h : pgOK t st q) {w : Nat} (hw : (w : Int) < (st.1 (95 + 5 * q) 5).toInt) : w < 40 ∧ (0 ≤ (st.1 (97 + 5 * q) w).toInt ∧ (st.1 (97 + 5 * q) w).toInt < 46) ∧ (¬ ((st.1 (96 + 5 * q) w).toInt = 4 ∨ (st.1 (96 + 5 * q) w).toInt = 5) → 0 ≤ (st.1 (98 + 5 * q) w).toInt ∧ (st.1 (98 + 5 * q) w).toInt < 46) := by
  obtain ⟨h1, h2, h3, h4, h5, h6, h7, h8⟩ := h
  obtain ⟨k1, k2, k3, k4, k5, k6⟩ := h7 w hw
  refine ⟨by omega, ?_, fun hn => ?_⟩
  · rcases k3 with k3 | k3 <;> omega
  · rcases k4 (by omega) with k4 | k4 <;> omega
set_option maxHeartbeats 4000000 in
theorem m_workOpenly (st : St) {q : Nat} (hq : q < 4) (ht : tOK (st.1 24 0)) (hp : pgOK (st.1 24 0).toInt st q) : Mv l D cy 3 YX0_workOpenly [.ref 24, .ref (95 + 5 * q)] st (fun u => ∃ f, u = sR st 25 f ∧ ∀ j, (f j).toInt = runSl (gK st q) (gA st q) (gB st q) (st.1 24 0).toInt (fun j => (st.1 25 j).toInt) ((st.1 (95 + 5 * q) 5).toInt).toNat j) := by
  have hw := hp.1
  have hw2 := hp.2.1
  refine M.ofG [some (.ref 24), some (.ref (95 + 5 * q)), none] (by decide) (Nat.le_of_ble_eq_true rfl) rfl ?_
  intro xp xe xs xm xa xb xme xc xad xA
  have loop : ∀ (f k : Nat) (g : Nat → Int32), k + f = ((st.1 (95 + 5 * q) 5).toInt).toNat → (∀ j, (g j).toInt = runSl (gK st q) (gA st q) (gB st q) (st.1 24 0).toInt (fun j => (st.1 25 j).toInt) k j) → G xp l xe (rmd (3)) xs xm xa xb xme xc D cy xad xA (YX0_workOpenly.2.1, YX0_workOpenly.1.cls, YX0_workOpenly.2.2.1, YX0_workOpenly.2.2.2) (Pv (fun (u : St) => ∃ f, u = sR st 25 f ∧ ∀ j, (f j).toInt = runSl (gK st q) (gA st q) (gB st q) (st.1 24 0).toInt (fun j => (st.1 25 j).toInt) ((st.1 (95 + 5 * q) 5).toInt).toNat j)) 2 ([some (.ref 24), some (.ref (95 + 5 * q)), some (.int (nI k))]) ([]) (sR st 25 g) := by
    intro f
    induction f with
    | zero =>
      intro k g hk hg
      refine g_ild2 eX0_workOpenly_2 ?_
      refine g_ald1 eX0_workOpenly_3 ?_
      refine g_getI (ci := 6) (j := 5) (by first | rfl | exact kd_key hi | exact kd_sh hi | exact kd_ya hi | exact kd_pr hq | exact kd_pk hq | exact kd_pf hq | exact kd_ps hq | exact kd_po hq | exact kd_pr hq2 | exact kd_pk hq2 | exact kd_pf hq2 | exact kd_ps hq2 | exact kd_po hq2) (by first | decide | (unfold N0; omega)) (Nat.le_of_ble_eq_true rfl) (Nat.le_of_ble_eq_true rfl) rfl fl_X0_43 eX0_workOpenly_4 ?_
      rw [sR_ne (show 95 + 5 * q ≠ 25 by omega)]
      refine g_icmp_ge eX0_workOpenly_7 (fun hb => ?_) (fun hb => ?_)
      · refine g_vret rfl eX0_workOpenly_35 ⟨rfl, ?_⟩
        try dsimp only
        refine ⟨g, rfl, ?_⟩
        rw [show ((st.1 (95 + 5 * q) 5).toInt).toNat = k by omega]
        exact hg
      · rw [fa_le, nI_toInt (by omega)] at hb
        exfalso
        omega
    | succ f ih =>
      intro k g hk hg
      have e24 : (sR st 25 g).1 24 = st.1 24 := sR_ne (by decide)
      have e96 : (sR st 25 g).1 (96 + 5 * q) = st.1 (96 + 5 * q) := sR_ne (by omega)
      have e97 : (sR st 25 g).1 (97 + 5 * q) = st.1 (97 + 5 * q) := sR_ne (by omega)
      have e98 : (sR st 25 g).1 (98 + 5 * q) = st.1 (98 + 5 * q) := sR_ne (by omega)
      obtain ⟨i1, i2, i3⟩ := pg_in hp (w := k) (by omega)
      refine g_ild2 eX0_workOpenly_2 ?_
      refine g_ald1 eX0_workOpenly_3 ?_
      refine g_getI (ci := 6) (j := 5) (by first | rfl | exact kd_key hi | exact kd_sh hi | exact kd_ya hi | exact kd_pr hq | exact kd_pk hq | exact kd_pf hq | exact kd_ps hq | exact kd_po hq | exact kd_pr hq2 | exact kd_pk hq2 | exact kd_pf hq2 | exact kd_ps hq2 | exact kd_po hq2) (by first | decide | (unfold N0; omega)) (Nat.le_of_ble_eq_true rfl) (Nat.le_of_ble_eq_true rfl) rfl fl_X0_43 eX0_workOpenly_4 ?_
      rw [sR_ne (show 95 + 5 * q ≠ 25 by omega)]
      refine g_icmp_ge eX0_workOpenly_7 (fun hb => ?_) (fun hb => ?_)
      · rw [fa_le, nI_toInt (by omega)] at hb
        exfalso
        omega
      · refine g_ald0 eX0_workOpenly_10 ?_
        refine g_getR (ci := 0) (j := 1) (by first | rfl | exact kd_key hi | exact kd_sh hi | exact kd_ya hi | exact kd_pr hq | exact kd_pk hq | exact kd_pf hq | exact kd_ps hq | exact kd_po hq | exact kd_pr hq2 | exact kd_pk hq2 | exact kd_pf hq2 | exact kd_ps hq2 | exact kd_po hq2) (by first | decide | (unfold N0; omega)) (Nat.le_of_ble_eq_true rfl) (Nat.le_of_ble_eq_true rfl) rfl (by first | rfl | exact r_key4 hi | exact r_sh0 hi | exact r_p0 hq | exact r_p1 hq | exact r_p2 hq | exact r_p3 hq | exact r_p0 hq2 | exact r_p1 hq2 | exact r_p2 hq2 | exact r_p3 hq2) fl_X0_11 eX0_workOpenly_11 ?_
        refine g_ild2 eX0_workOpenly_14 ?_
        refine g_ald1 eX0_workOpenly_15 ?_
        refine g_ild2 eX0_workOpenly_16 ?_
        refine g_ald0 eX0_workOpenly_17 ?_
        refine g_getR (ci := 0) (j := 1) (by first | rfl | exact kd_key hi | exact kd_sh hi | exact kd_ya hi | exact kd_pr hq | exact kd_pk hq | exact kd_pf hq | exact kd_ps hq | exact kd_po hq | exact kd_pr hq2 | exact kd_pk hq2 | exact kd_pf hq2 | exact kd_ps hq2 | exact kd_po hq2) (by first | decide | (unfold N0; omega)) (Nat.le_of_ble_eq_true rfl) (Nat.le_of_ble_eq_true rfl) rfl (by first | rfl | exact r_key4 hi | exact r_sh0 hi | exact r_p0 hq | exact r_p1 hq | exact r_p2 hq | exact r_p3 hq | exact r_p0 hq2 | exact r_p1 hq2 | exact r_p2 hq2 | exact r_p3 hq2) fl_X0_11 eX0_workOpenly_18 ?_
        refine g_ald0 eX0_workOpenly_21 ?_
        refine g_getI (ci := 0) (j := 0) (by first | rfl | exact kd_key hi | exact kd_sh hi | exact kd_ya hi | exact kd_pr hq | exact kd_pk hq | exact kd_pf hq | exact kd_ps hq | exact kd_po hq | exact kd_pr hq2 | exact kd_pk hq2 | exact kd_pf hq2 | exact kd_ps hq2 | exact kd_po hq2) (by first | decide | (unfold N0; omega)) (Nat.le_of_ble_eq_true rfl) (Nat.le_of_ble_eq_true rfl) rfl fl_X0_23 eX0_workOpenly_22 ?_
        rw [e24]
        refine g_callVi (ci := 6) (m_resultOf _ hq k i1 (by rw [e97]; exact i2) (by rw [e96, e98]; exact i3) _ (by omega)) (by first | rfl | exact kd_key hi | exact kd_sh hi | exact kd_ya hi | exact kd_pr hq | exact kd_pk hq | exact kd_pf hq | exact kd_ps hq | exact kd_po hq | exact kd_pr hq2 | exact kd_pk hq2 | exact kd_pf hq2 | exact kd_ps hq2 | exact kd_po hq2) (by first | decide | (unfold N0; omega)) (Nat.le_of_ble_eq_true rfl) rfl cv_X0_73 eX0_workOpenly_25 ⟨Nat.le_of_ble_eq_true rfl, Nat.le_of_ble_eq_true rfl⟩ rfl rfl (Nat.le_of_ble_eq_true rfl) (fun r u hr => ?_)
        obtain ⟨rfl, hr⟩ := hr
        unfold secF at hr
        rw [e96, e97, e98, sR_at] at hr
        refine g_iast (by first | rfl | exact kd_key hi | exact kd_sh hi | exact kd_ya hi | exact kd_pr hq | exact kd_pk hq | exact kd_pf hq | exact kd_ps hq | exact kd_po hq | exact kd_pr hq2 | exact kd_pk hq2 | exact kd_pf hq2 | exact kd_ps hq2 | exact kd_po hq2) (by first | decide | (unfold N0; omega)) (vp_in_nI (n := k) (N := 46) (by omega) (by decide)) eX0_workOpenly_28 ?_
        refine g_inc2 rfl (Nat.le_of_ble_eq_true rfl) rfl eX0_workOpenly_29 ?_
        refine g_goto eX0_workOpenly_32 ?_
        rw [nI_clamp (by omega), sI_sR, inc1]
        refine ih (k + 1) _ (by omega) (fun j => ?_)
        unfold upd
        show _ = (if j = k then _ else _)
        by_cases hj : j = k
        · rw [if_pos hj, if_pos hj, hr, hg]
          show workF _ _ _ _ = workF _ _ _ _
          congr 1
          show (if _ then _ else _) = (if _ then _ else _)
          split
          · rename_i hh
            exact (if_pos hh).symm
          · rename_i hh
            exact (hg _).trans (if_neg hh).symm
        · rw [if_neg hj, if_neg hj]
          exact hg j
  refine g_iconst (v := 0) (by decide) eX0_workOpenly_0 ?_
  refine g_ist2 rfl (Nat.le_of_ble_eq_true rfl) eX0_workOpenly_1 ?_
  have go := loop ((st.1 (95 + 5 * q) 5).toInt).toNat 0 (st.1 25) (by omega) (fun _ => rfl)
  rw [sR_same] at go
  exact go
/-- an out's number: open, or what stands in its slot -/
def outF (c : Int) (s : Nat → Int) : Int := if c < 0 then -1 - c else s c.toNat
theorem m_plainOut (st : St) {q : Nat} (hq : q < 4) (k : Nat) (hk : k < 4) (hc : -100 ≤ (st.1 (99 + 5 * q) k).toInt ∧ (st.1 (99 + 5 * q) k).toInt < 46) : Mi l D cy 1 YX0_plainOut [.ref 24, .ref (95 + 5 * q), .int (nI k)] st (fun r u => u = st ∧ r.toInt = outF ((st.1 (99 + 5 * q) k).toInt) (fun j => (st.1 25 j).toInt)) := by
  have hv : vp_in (nI k) (ln (99 + 5 * q)) := by rw [ln_po hq]; exact vp_in_nI hk (by decide)
  refine M.ofG [some (.ref 24), some (.ref (95 + 5 * q)), some (.int (nI k)), none] (by decide) (Nat.le_of_ble_eq_true rfl) rfl ?_
  intro xp xe xs xm xa xb xme xc xad xA
  refine g_ald1 eX0_plainOut_0 ?_
  refine g_getR (ci := 6) (j := 3) (by first | rfl | exact kd_key hi | exact kd_sh hi | exact kd_ya hi | exact kd_pr hq | exact kd_pk hq | exact kd_pf hq | exact kd_ps hq | exact kd_po hq | exact kd_pr hq2 | exact kd_pk hq2 | exact kd_pf hq2 | exact kd_ps hq2 | exact kd_po hq2) (by first | decide | (unfold N0; omega)) (Nat.le_of_ble_eq_true rfl) (Nat.le_of_ble_eq_true rfl) rfl (by first | rfl | exact r_key4 hi | exact r_sh0 hi | exact r_p0 hq | exact r_p1 hq | exact r_p2 hq | exact r_p3 hq | exact r_p0 hq2 | exact r_p1 hq2 | exact r_p2 hq2 | exact r_p3 hq2) fl_X0_93 eX0_plainOut_1 ?_
  refine g_ild2 eX0_plainOut_4 ?_
  refine g_iald (by first | rfl | exact kd_key hi | exact kd_sh hi | exact kd_ya hi | exact kd_pr hq | exact kd_pk hq | exact kd_pf hq | exact kd_ps hq | exact kd_po hq | exact kd_pr hq2 | exact kd_pk hq2 | exact kd_pf hq2 | exact kd_ps hq2 | exact kd_po hq2) (by first | decide | (unfold N0; omega)) hv eX0_plainOut_5 ?_
  refine g_ist3 rfl (Nat.le_of_ble_eq_true rfl) eX0_plainOut_6 ?_
  refine g_ild3 eX0_plainOut_7 ?_
  rw [nI_clamp (by omega)]
  refine g_callSi (m_isOpen _ _) cs_X0_96 eX0_plainOut_8 ⟨Nat.le_of_ble_eq_true rfl, Nat.le_of_ble_eq_true rfl⟩ rfl rfl (Nat.le_of_ble_eq_true rfl) (fun r u hr => ?_)
  obtain ⟨rfl, rfl⟩ := hr
  refine g_if_eq eX0_plainOut_11 (fun hb => ?_) (fun hb => ?_)
  · rw [b2_eq0] at hb
    refine g_ald0 eX0_plainOut_21 ?_
    refine g_getR (ci := 0) (j := 1) (by first | rfl | exact kd_key hi | exact kd_sh hi | exact kd_ya hi | exact kd_pr hq | exact kd_pk hq | exact kd_pf hq | exact kd_ps hq | exact kd_po hq | exact kd_pr hq2 | exact kd_pk hq2 | exact kd_pf hq2 | exact kd_ps hq2 | exact kd_po hq2) (by first | decide | (unfold N0; omega)) (Nat.le_of_ble_eq_true rfl) (Nat.le_of_ble_eq_true rfl) rfl (by first | rfl | exact r_key4 hi | exact r_sh0 hi | exact r_p0 hq | exact r_p1 hq | exact r_p2 hq | exact r_p3 hq | exact r_p0 hq2 | exact r_p1 hq2 | exact r_p2 hq2 | exact r_p3 hq2) fl_X0_11 eX0_plainOut_22 ?_
    refine g_ild3 eX0_plainOut_25 ?_
    refine g_iald (by first | rfl | exact kd_key hi | exact kd_sh hi | exact kd_ya hi | exact kd_pr hq | exact kd_pk hq | exact kd_pf hq | exact kd_ps hq | exact kd_po hq | exact kd_pr hq2 | exact kd_pk hq2 | exact kd_pf hq2 | exact kd_ps hq2 | exact kd_po hq2) (by first | decide | (unfold N0; omega)) (vin (n := 46) (by omega) (by omega)) eX0_plainOut_26 ?_
    refine g_iret rfl eX0_plainOut_27 ⟨_, rfl, ?_⟩
    try dsimp only
    refine ⟨rfl, ?_⟩
    unfold outF
    rw [if_neg hb]
    rfl
  · rw [b2_ne0] at hb
    refine g_ild3 eX0_plainOut_14 ?_
    refine g_callSi (m_openNumber _ _) cs_X0_99 eX0_plainOut_15 ⟨Nat.le_of_ble_eq_true rfl, Nat.le_of_ble_eq_true rfl⟩ rfl rfl (Nat.le_of_ble_eq_true rfl) (fun r u2 hr => ?_)
    obtain ⟨rfl, rfl⟩ := hr
    refine g_goto eX0_plainOut_18 ?_
    refine g_iret rfl eX0_plainOut_27 ⟨_, rfl, ?_⟩
    try dsimp only
    refine ⟨rfl, ?_⟩
    unfold outF
    rw [if_pos hb]
    exact neg1_sub (by omega)
theorem m_takeIn (st : St) (k : Nat) (hk : k < 6) (a b : Int32) : Mv l D cy 1 YX0_takeIn [.ref 24, .int (nI k), .int a, .int b] st (fun u => u = sI (sI st 25 (40 + k) a) 26 (40 + k) b) := by
  have ht : (nI k).toInt = k := nI_toInt (by omega)
  refine M.ofG [some (.ref 24), some (.int (nI k)), some (.int a), some (.int b)] (by decide) (Nat.le_of_ble_eq_true rfl) rfl ?_
  intro xp xe xs xm xa xb xme xc xad xA
  refine g_ild1 eX0_takeIn_0 ?_
  refine g_if_lt eX0_takeIn_1 (fun hb => ?_) (fun hb => ?_)
  · exact absurd hb (nI_pos (by omega))
  · refine g_ild1 eX0_takeIn_4 ?_
    refine g_bipush (v := 6) (by decide) eX0_takeIn_5 ?_
    refine g_icmp_ge eX0_takeIn_7 (fun hb2 => ?_) (fun hb2 => ?_)
    · exact absurd hb2 (nI_ge (a := k) (b := 6) (by omega) (by omega))
    · refine g_ald0 eX0_takeIn_10 ?_
      refine g_getR (ci := 0) (j := 1) rfl (Nat.le_of_ble_eq_true rfl) (Nat.le_of_ble_eq_true rfl) (Nat.le_of_ble_eq_true rfl) rfl rfl fl_X0_11 eX0_takeIn_11 ?_
      refine g_ild1 eX0_takeIn_14 ?_
      refine g_callSi (m_codeOfIn _ (nI k)) cs_X0_40 eX0_takeIn_15 ⟨Nat.le_of_ble_eq_true rfl, Nat.le_of_ble_eq_true rfl⟩ rfl rfl (Nat.le_of_ble_eq_true rfl) (fun r u hr => ?_)
      obtain ⟨rfl, rfl⟩ := hr
      rw [in40 hk]
      refine g_ild2 eX0_takeIn_18 ?_
      refine g_iast rfl (Nat.le_of_ble_eq_true rfl) (vp_in_nI (n := 40 + k) (N := 46) (by omega) (by decide)) eX0_takeIn_19 ?_
      refine g_ald0 eX0_takeIn_20 ?_
      refine g_getR (ci := 0) (j := 2) rfl (Nat.le_of_ble_eq_true rfl) (Nat.le_of_ble_eq_true rfl) (Nat.le_of_ble_eq_true rfl) rfl rfl fl_X0_17 eX0_takeIn_21 ?_
      refine g_ild1 eX0_takeIn_24 ?_
      refine g_callSi (m_codeOfIn _ (nI k)) cs_X0_40 eX0_takeIn_25 ⟨Nat.le_of_ble_eq_true rfl, Nat.le_of_ble_eq_true rfl⟩ rfl rfl (Nat.le_of_ble_eq_true rfl) (fun r u2 hr => ?_)
      obtain ⟨rfl, rfl⟩ := hr
      rw [in40 hk]
      refine g_ild3 eX0_takeIn_28 ?_
      refine g_iast rfl (Nat.le_of_ble_eq_true rfl) (vp_in_nI (n := 40 + k) (N := 46) (by omega) (by decide)) eX0_takeIn_29 ?_
      rw [nI_clamp (by omega)]
      exact g_vret rfl eX0_takeIn_30 ⟨rfl, rfl⟩
end DESK
