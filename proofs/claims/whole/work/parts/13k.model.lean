/-! SealedSumsModel: on plain numbers -/
section MODL
variable {l : Launch} {D : va_G} {cy : Nat → ClassId}
theorem w_allOf (st : St) (q : Nat) (hq : q < 4) (n : Nat) (hI : st.1 39 q = nI n) (hn : n ≤ 6) (ht : tOK (st.1 31 17)) : Mi l D cy 0 YX12_allOf [.ref 31, .int (nI q)] st (fun r u => u = st ∧ r.toInt = (st.1 31 17).toInt ^ n) := by
  have hc : (nI q).toNatClampNeg = q := nI_clamp (by omega)
  refine M.ofG [some (.ref 31), some (.int (nI q)), none, none] (by decide) (Nat.le_of_ble_eq_true rfl) rfl ?_
  intro xp xe xs xm xa xb xme xc xad xA
  have loop : ∀ (f k : Nat) (a : Int32), k + f = n → a.toInt = (st.1 31 17).toInt ^ k → G xp l xe (rmd (0)) xs xm xa xb xme xc D cy xad xA (YX12_allOf.2.1, YX12_allOf.1.cls, YX12_allOf.2.2.1, YX12_allOf.2.2.2) (Pi (fun (r : Int32) (u : St) => u = st ∧ r.toInt = (st.1 31 17).toInt ^ n)) 4 ([some (.ref 31), some (.int (nI q)), some (.int a), some (.int (nI k))]) ([]) (st) := by
    intro f
    induction f with
    | zero =>
      intro k a hk ha
      refine g_ild3 eX12_allOf_4 ?_
      refine g_ald0 eX12_allOf_5 ?_
      refine g_getR (ci := 11) (j := 21) rfl (Nat.le_of_ble_eq_true rfl) (Nat.le_of_ble_eq_true rfl) (Nat.le_of_ble_eq_true rfl) rfl rfl fl_X12_37 eX12_allOf_6 ?_
      refine g_ild1 eX12_allOf_9 ?_
      refine g_iald rfl (Nat.le_of_ble_eq_true rfl) (vp_in_nI (n := q) (N := 5) (by omega) (by decide)) eX12_allOf_10 ?_
      rw [hc, hI]
      refine g_icmp_ge eX12_allOf_11 (fun hb => ?_) (fun hb => ?_)
      · refine g_ild2 eX12_allOf_27 ?_
        refine g_iret rfl eX12_allOf_28 ⟨_, rfl, ?_⟩
        try dsimp only
        exact ⟨rfl, by rw [ha]; congr 1⟩
      · exact absurd (nI_le (by omega) (by omega)) hb
    | succ f ih =>
      intro k a hk ha
      refine g_ild3 eX12_allOf_4 ?_
      refine g_ald0 eX12_allOf_5 ?_
      refine g_getR (ci := 11) (j := 21) rfl (Nat.le_of_ble_eq_true rfl) (Nat.le_of_ble_eq_true rfl) (Nat.le_of_ble_eq_true rfl) rfl rfl fl_X12_37 eX12_allOf_6 ?_
      refine g_ild1 eX12_allOf_9 ?_
      refine g_iald rfl (Nat.le_of_ble_eq_true rfl) (vp_in_nI (n := q) (N := 5) (by omega) (by decide)) eX12_allOf_10 ?_
      rw [hc, hI]
      refine g_icmp_ge eX12_allOf_11 (fun hb => ?_) (fun hb => ?_)
      · exact absurd hb (nI_ge (by omega) (by omega))
      · refine g_ild2 eX12_allOf_14 ?_
        refine g_ald0 eX12_allOf_15 ?_
        refine g_getI (ci := 11) (j := 17) rfl (Nat.le_of_ble_eq_true rfl) (Nat.le_of_ble_eq_true rfl) (Nat.le_of_ble_eq_true rfl) rfl fl_X12_174 eX12_allOf_16 ?_
        refine g_imul eX12_allOf_19 ?_
        refine g_ist2 rfl (Nat.le_of_ble_eq_true rfl) eX12_allOf_20 ?_
        refine g_inc3 rfl (Nat.le_of_ble_eq_true rfl) rfl eX12_allOf_21 ?_
        refine g_goto eX12_allOf_24 ?_
        rw [inc1]
        refine ih (k + 1) _ (by omega) ?_
        have h1 := pow_le6 ht (k := k + 1) (by omega)
        rw [Int.pow_succ] at h1 ⊢
        rw [fb_mulI, ha] <;> rw [ha] <;> omega
  refine g_iconst (v := 1) (by decide) eX12_allOf_0 ?_
  refine g_ist2 rfl (Nat.le_of_ble_eq_true rfl) eX12_allOf_1 ?_
  refine g_iconst (v := 0) (by decide) eX12_allOf_2 ?_
  refine g_ist3 rfl (Nat.le_of_ble_eq_true rfl) eX12_allOf_3 ?_
  exact loop n 0 1 (by omega) (by rw [Int.pow_zero]; rfl)
/-- the plain numbers that stand in the slots -/
def slP (st : St) : Nat → Int := fun j => if j < 40 then (st.1 75 j).toInt else (st.1 76 (j - 40)).toInt
theorem w_plainValue (st : St) {W I : Nat} {t : Int} (ht : t ≤ 13) (hW : W ≤ 40) (hI : I ≤ 6) (c : Int) (hc : cOK W I c ∨ (-t ≤ c ∧ c < 0)) (x : Int32) (hx : x.toInt = toldF c) : Mi l D cy 1 YX12_plainValue [.ref 31, .int x] st (fun r u => u = st ∧ r.toInt = outF c (slP st)) := by
  have e10 : (-10 : Int32).toInt = -10 := rfl
  have e30 : (-30 : Int32).toInt = -30 := rfl
  have e0 : (0 : Int32).toInt = 0 := rfl
  refine M.ofG [some (.ref 31), some (.int x)] (by decide) (Nat.le_of_ble_eq_true rfl) rfl ?_
  intro xp xe xs xm xa xb xme xc xad xA
  refine g_ild1 eX12_plainValue_0 ?_
  refine g_callSi (w_isOpen _ x) cs_X12_339 eX12_plainValue_1 ⟨Nat.le_of_ble_eq_true rfl, Nat.le_of_ble_eq_true rfl⟩ rfl rfl (Nat.le_of_ble_eq_true rfl) (fun r st h => ?_)
  obtain ⟨rfl, rfl⟩ := h
  rw [hx]
  refine g_if_eq eX12_plainValue_4 (fun hb => ?_) (fun hb => ?_)
  · rw [b2_eq0] at hb
    have hcc : cOK W I c := hc.resolve_right (fun h => hb (by unfold toldF; rw [if_pos h.2]; omega))
    have hc0 : ¬ c < 0 := by unfold cOK at hcc; omega
    refine g_ild1 eX12_plainValue_14 ?_
    rcases told_cases hcc hW with ⟨h1, h2, h3, h4⟩ | ⟨h1, h2, h3, h4⟩
    · refine g_if_lt eX12_plainValue_15 (fun hb => ?_) (fun hb => ?_)
      · have ei : (-10 - x).toInt = ((c - 40).toNat : Int) := by rw [fb_subI] <;> rw [e10, hx, h4] <;> omega
        refine g_ald0 eX12_plainValue_27 ?_
        refine g_getR (ci := 11) (j := 71) rfl (Nat.le_of_ble_eq_true rfl) (Nat.le_of_ble_eq_true rfl) (Nat.le_of_ble_eq_true rfl) rfl rfl fl_X12_149 eX12_plainValue_28 ?_
        refine g_bipush (v := (-10)) (by decide) eX12_plainValue_31 ?_
        refine g_ild1 eX12_plainValue_33 ?_
        refine g_isub eX12_plainValue_34 ?_
        refine g_iald rfl (Nat.le_of_ble_eq_true rfl) (vin (by rw [ei]; omega) (by rw [ei]; show ((c - 40).toNat : Int) < ((6 : Nat) : Int); omega)) eX12_plainValue_35 ?_
        refine g_iret rfl eX12_plainValue_36 ⟨_, rfl, ?_⟩
        try dsimp only
        refine ⟨rfl, ?_⟩
        unfold outF slP
        rw [clamp ei, if_neg hc0, if_neg (by omega), show c.toNat - 40 = (c - 40).toNat by omega]
      · exact absurd (by rw [fa_lt, e0, hx]; exact h1) hb
    · refine g_if_lt eX12_plainValue_15 (fun hb => ?_) (fun hb => ?_)
      · exact absurd (by rw [fa_lt, e0, hx] at hb; exact hb) (by omega)
      · refine g_ald0 eX12_plainValue_18 ?_
        refine g_getR (ci := 11) (j := 70) rfl (Nat.le_of_ble_eq_true rfl) (Nat.le_of_ble_eq_true rfl) (Nat.le_of_ble_eq_true rfl) rfl rfl fl_X12_146 eX12_plainValue_19 ?_
        refine g_ild1 eX12_plainValue_22 ?_
        refine g_iald rfl (Nat.le_of_ble_eq_true rfl) (vin (by omega) (by rw [hx, h4]; show c < ((40 : Nat) : Int); omega)) eX12_plainValue_23 ?_
        refine g_goto eX12_plainValue_24 ?_
        refine g_iret rfl eX12_plainValue_36 ⟨_, rfl, ?_⟩
        try dsimp only
        refine ⟨rfl, ?_⟩
        unfold outF slP
        rw [clamp_to, hx, h4, if_neg hc0, if_pos (by omega)]
  · rw [b2_ne0] at hb
    have hU0 : -t ≤ c ∧ c < 0 := hc.resolve_left (fun h => by rcases told_cases h hW with h9 | h9 <;> omega)
    have eT : toldF c = -29 + c := by unfold toldF; rw [if_pos hU0.2]; omega
    have eo : (-30 - x).toInt = -1 - c := by rw [fb_subI] <;> rw [e30, hx, eT] <;> omega
    refine g_ild1 eX12_plainValue_7 ?_
    refine g_callSi (w_opened _ x) cs_X12_342 eX12_plainValue_8 ⟨Nat.le_of_ble_eq_true rfl, Nat.le_of_ble_eq_true rfl⟩ rfl rfl (Nat.le_of_ble_eq_true rfl) (fun z st h => ?_)
    obtain ⟨rfl, rfl⟩ := h
    refine g_goto eX12_plainValue_11 ?_
    refine g_iret rfl eX12_plainValue_36 ⟨_, rfl, ?_⟩
    try dsimp only
    refine ⟨rfl, ?_⟩
    unfold outF
    rw [if_pos hU0.2]
    exact eo
theorem runSl_hi (K A B : Nat → Int) (t : Int) (s : Nat → Int) : ∀ (n j : Nat), n ≤ j → runSl K A B t s n j = s j
  | 0, _, _ => rfl
  | n + 1, j, h => by
    show (if j = n then _ else runSl K A B t s n j) = s j
    rw [if_neg (by omega)]
    exact runSl_hi K A B t s n j (by omega)
theorem rem_twice (x y : Int32) (hy : 2 ≤ y.toInt ∧ y.toInt ≤ 13) (hx : -1000 ≤ x.toInt ∧ x.toInt ≤ 1000) : ((x - x / y * y + y) - (x - x / y * y + y) / y * y).toInt = x.toInt % y.toInt := by
  have h1 : (x - x / y * y).toInt = x.toInt.tmod y.toInt := rem32 (by omega)
  have h2 := tmod_rng x.toInt y.toInt (by omega)
  have h3 : (x - x / y * y + y).toInt = x.toInt.tmod y.toInt + y.toInt := by rw [fb_addI] <;> rw [h1] <;> omega
  rw [rem32 (by omega), h3, Int.tmod_eq_emod_of_nonneg (by omega)]
  by_cases h : 0 ≤ x.toInt.tmod y.toInt
  · rw [emod_of_tmod (by omega) h, Int.add_emod_right, Int.emod_emod]
  · rw [emod_of_tmod' (by omega) (by omega), Int.emod_emod]
/-- scratch of the plain numbers -/
def oS (st : St) (f g : Nat → Int32) : St := sR (sR st 75 f) 76 g
theorem oS_row (st : St) (f g : Nat → Int32) {k : Nat} (h1 : k ≠ 75) (h2 : k ≠ 76) : (oS st f g).1 k = st.1 k := by unfold oS; rw [sR_ne h2, sR_ne h1]
theorem oS_pf (st : St) (f g : Nat → Int32) (j : Nat) (x : Int32) : sI (oS st f g) 75 j x = oS st (upd f j x) g := by unfold oS; rw [sR_comm st (by decide), sI_sR, sR_comm st (by decide)]
theorem oS_pg (st : St) (f g : Nat → Int32) (j : Nat) (x : Int32) : sI (oS st f g) 76 j x = oS st f (upd g j x) := by unfold oS; rw [sI_sR]
theorem oS_f (st : St) (f g : Nat → Int32) : (oS st f g).1 75 = f := by unfold oS; rw [sR_ne (by decide), sR_at]
theorem oS_g (st : St) (f g : Nat → Int32) : (oS st f g).1 76 = g := by unfold oS; rw [sR_at]
theorem oS_same (st : St) : oS st (st.1 75) (st.1 76) = st := by unfold oS; rw [sR_same, sR_same]
theorem oS_oS (st : St) (f g f2 g2 : Nat → Int32) : oS (oS st f g) f2 g2 = oS st f2 g2 := by
  refine St_ext (fun a j => ?_) (fun _ _ => rfl)
  unfold oS
  simp only [sR_1]
  by_cases h1 : a = 76
  · simp only [h1, if_true]
  · by_cases h2 : a = 75
    · subst h2; simp
    · simp only [h1, h2, if_false]
end MODL
