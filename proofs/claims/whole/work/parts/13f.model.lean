/-! SealedSumsModel: cost, layings that hold, the best one -/
section MODG
variable {l : Launch} {D : va_G} {cy : Nat → ClassId}
/-- a row of longs set -/
def sLR (st : St) (k : Nat) (f : Nat → Int64) : St := (st.1, fun a => if a = k then f else st.2 a)
theorem sLR_1 (st : St) (k : Nat) (f : Nat → Int64) : (sLR st k f).1 = st.1 := rfl
theorem sLR_at (st : St) (k : Nat) (f : Nat → Int64) : (sLR st k f).2 k = f := if_pos rfl
theorem sLR_ne {st : St} {k a : Nat} {f : Nat → Int64} (h : a ≠ k) : (sLR st k f).2 a = st.2 a := if_neg h
theorem sLR_same (st : St) (k : Nat) : sLR st k (st.2 k) = st := by
  refine St_ext (fun _ _ => rfl) (fun a b => ?_)
  show (if a = k then st.2 k else st.2 a) b = st.2 a b
  split
  · rename_i h; rw [h]
  · rfl
theorem sL_sLR (st : St) (k j : Nat) (f : Nat → Int64) (x : Int64) : sL (sLR st k f) k j x = sLR st k (vp_updL f j x) := by
  refine St_ext (fun _ _ => rfl) (fun a b => ?_)
  rw [sL_2]
  show (if a = k ∧ b = j then x else (if a = k then f else st.2 a) b) = (if a = k then vp_updL f j x else st.2 a) b
  by_cases h : a = k
  · rw [if_pos h, if_pos h]
    by_cases h2 : b = j
    · rw [if_pos ⟨h, h2⟩]; unfold vp_updL; rw [if_pos h2]
    · rw [if_neg (fun q => h2 q.2)]; unfold vp_updL; rw [if_neg h2]
  · rw [if_neg h, if_neg h, if_neg (fun q => h q.1)]
theorem sL_comm {st : St} {k j k2 j2 : Nat} {x y : Int64} (h : k ≠ k2 ∨ j ≠ j2) : sL (sL st k j x) k2 j2 y = sL (sL st k2 j2 y) k j x := by
  refine St_ext (fun _ _ => rfl) (fun a b => ?_)
  rw [sL_2, sL_2, sL_2, sL_2]
  by_cases h1 : a = k2 ∧ b = j2
  · rw [if_pos h1, if_pos h1, if_neg (by omega)]
  · rw [if_neg h1, if_neg h1]
theorem sL_sL (st : St) (k j : Nat) (x y : Int64) : sL (sL st k j x) k j y = sL st k j y := by
  refine St_ext (fun _ _ => rfl) (fun a b => ?_)
  rw [sL_2, sL_2, sL_2]
  by_cases h1 : a = k ∧ b = j
  · rw [if_pos h1, if_pos h1]
  · rw [if_neg h1, if_neg h1, if_neg h1]
theorem mkS_mkS (st : St) (c d c2 d2 : Int64) : mkS (mkS st c d) c2 d2 = mkS st c2 d2 := by
  unfold mkS
  rw [sL_comm (Or.inr (by decide)), sL_sL, sL_comm (Or.inr (by decide)), sL_sL]
theorem mkS_sL {st : St} {k j : Nat} {x c d : Int64} (h : k ≠ 31) : sL (mkS st c d) k j x = mkS (sL st k j x) c d := by
  unfold mkS
  rw [sL_comm (Or.inl (by omega)), sL_comm (k2 := k) (Or.inl (by omega))]
theorem sLR_sL {st : St} {k j k2 : Nat} {x : Int64} {f : Nat → Int64} (h : k ≠ k2) : sLR (sL st k j x) k2 f = sL (sLR st k2 f) k j x := by
  refine St_ext (fun _ _ => rfl) (fun a b => ?_)
  rw [sL_2]
  show (if a = k2 then f else (sL st k j x).2 a) b = if a = k ∧ b = j then x else (if a = k2 then f else st.2 a) b
  by_cases h1 : a = k2
  · rw [if_pos h1, if_pos h1, if_neg (by omega)]
  · rw [if_neg h1, if_neg h1]; rfl
theorem sLR_sLR (st : St) (k : Nat) (f g : Nat → Int64) : sLR (sLR st k f) k g = sLR st k g := by
  refine St_ext (fun _ _ => rfl) (fun a b => ?_)
  show (if a = k then g else (if a = k then f else st.2 a)) b = (if a = k then g else st.2 a) b
  by_cases h1 : a = k
  · rw [if_pos h1, if_pos h1]
  · rw [if_neg h1, if_neg h1, if_neg h1]
theorem sLR_mkS {st : St} {k : Nat} {f : Nat → Int64} {c d : Int64} (h : k ≠ 31) : sLR (mkS st c d) k f = mkS (sLR st k f) c d := by
  unfold mkS
  rw [sLR_sL (by omega), sLR_sL (by omega)]
theorem w_cost (st s1 : St) (hT : sI st 31 18 0 = s1) (np : Nat) (hn : s1.1 31 19 = nI np) (h4 : np ≤ 4) {t : Int} {K A B U : Nat → Nat → Int} {W I O : Nat → Nat} (hp : ∀ q, q < np → mPg t s1 q (K q) (A q) (B q) (U q) (W q) (I q) (O q)) (x k : Int32) : Mi l D cy 2 YX12_cost [.ref 31, .int x, .int k] st (fun r u => u = s1 ∧ r.toInt = if isS np x ∧ 0 ≤ k.toInt ∧ k.toInt < layN (W (qI x)) then costF (K (qI x)) (W (qI x)) (qI k) else -1) := by
  have hcn : (s1.1 31 19).toInt = np := by rw [hn, nI_toInt (by omega)]
  refine M.ofG [some (.ref 31), some (.int x), some (.int k)] (by decide) (Nat.le_of_ble_eq_true rfl) rfl ?_
  intro xp xe xs xm xa xb xme xc xad xA
  refine g_ald0 eX12_cost_0 ?_
  refine g_iconst (v := 0) (by decide) eX12_cost_1 ?_
  refine g_putI (ci := 11) (j := 18) rfl rfl (Nat.le_of_ble_eq_true rfl) (Nat.le_of_ble_eq_true rfl) (Nat.le_of_ble_eq_true rfl) rfl fl_X12_177 eX12_cost_2 ?_
  rw [hT]
  refine g_ald0 eX12_cost_5 ?_
  refine g_ild1 eX12_cost_6 ?_
  refine g_callVi (ci := 11) (w_isProgram _ x) rfl (Nat.le_of_ble_eq_true rfl) (Nat.le_of_ble_eq_true rfl) rfl cv_X12_461 eX12_cost_7 ⟨Nat.le_of_ble_eq_true rfl, Nat.le_of_ble_eq_true rfl⟩ rfl rfl (Nat.le_of_ble_eq_true rfl) (fun r s1 h => ?_)
  obtain ⟨rfl, rfl⟩ := h
  refine g_if_eq eX12_cost_10 (fun hb => ?_) (fun hb => ?_)
  · rw [b2_eq0, hcn] at hb
    refine g_iconst (v := (-1)) (by decide) eX12_cost_31 ?_
    exact g_iret rfl eX12_cost_32 ⟨_, rfl, ⟨rfl, by rw [if_neg (fun h => hb h.1)]; rfl⟩⟩
  · rw [b2_ne0, hcn] at hb
    obtain ⟨q, hq, rfl⟩ := as_nI hb
    have e : qI (nI q) = q := nI_clamp (by omega)
    have hpq := hp q hq
    rw [e]
    refine g_ald0 eX12_cost_13 ?_
    refine g_ild1 eX12_cost_14 ?_
    refine g_ild2 eX12_cost_15 ?_
    refine g_callVi (ci := 11) (w_isLaying _ q (by omega) _ hpq.1 hpq.2.2.2.1 k) rfl (Nat.le_of_ble_eq_true rfl) (Nat.le_of_ble_eq_true rfl) rfl cv_X12_464 eX12_cost_16 ⟨Nat.le_of_ble_eq_true rfl, Nat.le_of_ble_eq_true rfl⟩ rfl rfl (Nat.le_of_ble_eq_true rfl) (fun r s1 h => ?_)
    obtain ⟨rfl, rfl⟩ := h
    refine g_if_eq eX12_cost_19 (fun hb2 => ?_) (fun hb2 => ?_)
    · rw [b2_eq0] at hb2
      refine g_iconst (v := (-1)) (by decide) eX12_cost_31 ?_
      exact g_iret rfl eX12_cost_32 ⟨_, rfl, ⟨rfl, by rw [if_neg (fun h => hb2 h.2)]; rfl⟩⟩
    · rw [b2_ne0] at hb2
      have hl2 := layN_le (W q)
      obtain ⟨v, hv, rfl⟩ := as_nI (x := k) (n := 4096) (by omega)
      have ev : qI (nI v) = v := nI_clamp (by omega)
      rw [nI_toInt (by omega)] at hb2
      refine g_ald0 eX12_cost_22 ?_
      refine g_ild1 eX12_cost_23 ?_
      refine g_ild2 eX12_cost_24 ?_
      refine g_callVi (ci := 11) (w_costOf _ q (by omega) hpq v hb2.2) rfl (Nat.le_of_ble_eq_true rfl) (Nat.le_of_ble_eq_true rfl) rfl cv_X12_468 eX12_cost_25 ⟨Nat.le_of_ble_eq_true rfl, Nat.le_of_ble_eq_true rfl⟩ rfl rfl (Nat.le_of_ble_eq_true rfl) (fun r s1 h => ?_)
      obtain ⟨rfl, h⟩ := h
      refine g_goto eX12_cost_28 ?_
      refine g_iret rfl eX12_cost_32 ⟨_, rfl, ?_⟩
      try dsimp only
      refine ⟨rfl, ?_⟩
      rw [if_pos ⟨hb, by rw [nI_toInt (by omega)]; exact hb2⟩, ev]
      exact h
theorem afl_hi {K A B : Nat → Int} {F p lay : Int} : ∀ {n : Nat} {s : Nat → Int}, afl K A B F p lay n = some s → ∀ j, n ≤ j → s j = F
  | 0, s, h, j, _ => by
    have : s = fun _ => F := (Option.some.inj h).symm
    rw [this]
  | n + 1, s, h, j, hj => by
    change (match afl K A B F p lay n with | none => none | some s => _) = some s at h
    cases e : afl K A B F p lay n with
    | none => rw [e] at h; exact absurd h (by intro h; cases h)
    | some s2 =>
      rw [e] at h
      by_cases hd : p ≤ 2 * boundF (K n) (s2 (A n).toNat) (if K n = 4 ∨ K n = 5 then B n else s2 (B n).toNat)
      · have h9 := (if_pos hd).symm.trans h
        cases h9
      · have h9 := Option.some.inj ((if_neg hd).symm.trans h)
        rw [← h9]
        show (if j = n then _ else s2 j) = F
        rw [if_neg (by omega)]
        exact afl_hi e j (by omega)
/-- scratch of the layings that hold: a row of longs, the last C, the last bound -/
def hS (st : St) (g : Nat → Int64) (c d : Int64) : St := mkS (sLR st 71 g) c d
theorem hS_1 (st : St) (g : Nat → Int64) (c d : Int64) : (hS st g c d).1 = st.1 := rfl
theorem hS_g (st : St) (g : Nat → Int64) (c d : Int64) : (hS st g c d).2 71 = g := by unfold hS; rw [mkS_row _ _ _ (by decide), sLR_at]
theorem hS_B (st : St) (g : Nat → Int64) (c d : Int64) : (hS st g c d).2 31 64 = d := mkS_B _ _ _
theorem hS_mk (st : St) (g : Nat → Int64) (c d c2 d2 : Int64) : mkS (hS st g c d) c2 d2 = hS st g c2 d2 := mkS_mkS _ _ _ _ _
theorem hS_put (st : St) (g : Nat → Int64) (c d : Int64) (j : Nat) (x : Int64) : sL (hS st g c d) 71 j x = hS st (vp_updL g j x) c d := by unfold hS; rw [mkS_sL (by decide), sL_sLR]
theorem hS_hS (st : St) (g : Nat → Int64) (c d : Int64) (g2 : Nat → Int64) (c2 d2 : Int64) : hS (hS st g c d) g2 c2 d2 = hS st g2 c2 d2 := by
  unfold hS
  rw [sLR_mkS (by decide), mkS_mkS, sLR_sLR]
theorem hS_same (st : St) : hS st (st.2 71) (st.2 31 63) (st.2 31 64) = st := by
  unfold hS
  rw [sLR_same, mkS_same]
theorem z8r : -100000000 ≤ (0 : Int64).toInt ∧ (0 : Int64).toInt ≤ 100000000 := by decide
theorem z6r : 0 ≤ (0 : Int64).toInt ∧ (0 : Int64).toInt ≤ 1000000 := by decide
set_option maxHeartbeats 8000000 in
theorem w_holdsOut (st : St) {t : Int} (q : Nat) (hq : q < 4) {K A B U : Nat → Int} {W I O : Nat} (hp : mPg t st q K A B U W I O) (ht : tOK (st.1 31 17)) (hte : t = (st.1 31 17).toInt) (i : Nat) (hi : i < 4) (ho : mkOK st i) (x : Nat) (hx : x < 4096) : Mi l D cy 3 YX12_holdsOut [.ref 31, .int (nI q), .int (nI i), .int (nI x)] st (fun r u => (∃ g c d, u = hS st g c d) ∧ r = b2 (stays K A B I W (fBm st i) (mP st i) x)) := by
  obtain ⟨p1, p2, p3, p4, p5, p6, p7, p8, p9, -⟩ := hp
  have hc : (nI q).toNatClampNeg = q := nI_clamp (by omega)
  have hci : (nI i).toNatClampNeg = i := nI_clamp (by omega)
  have htx : (nI x).toInt = x := nI_toInt (by omega)
  have hF := fB_rng ho ht
  have hl40 : ln 71 = 40 := rfl
  have hmP : mP st i = (st.1 63 i).toInt := rfl
  generalize hFe : fBm st i = F at hF ⊢
  refine M.ofG [some (.ref 31), some (.int (nI q)), some (.int (nI i)), some (.int (nI x)), none, none, none, none, none, none, none, none] (by decide) (Nat.le_of_ble_eq_true rfl) rfl ?_
  intro xp xe xs xm xa xb xme xc xad xA
  refine g_ald0 eX12_holdsOut_0 ?_
  refine g_ild2 eX12_holdsOut_1 ?_
  refine g_callVl (ci := 11) (w_freshBound _ i hi ho ht) rfl (Nat.le_of_ble_eq_true rfl) (Nat.le_of_ble_eq_true rfl) rfl cv_X12_422 eX12_holdsOut_2 ⟨Nat.le_of_ble_eq_true rfl, Nat.le_of_ble_eq_true rfl⟩ rfl rfl (Nat.le_of_ble_eq_true rfl) (fun fr0 st hfr => ?_)
  obtain ⟨rfl, hfr⟩ := hfr
  have hfr0 : fr0.toInt = F := by rw [hfr]; exact hFe
  refine g_callSl (w_held _ fr0) cs_X12_411 eX12_holdsOut_5 ⟨Nat.le_of_ble_eq_true rfl, Nat.le_of_ble_eq_true rfl⟩ rfl rfl (Nat.le_of_ble_eq_true rfl) (fun fr st hfr2 => ?_)
  obtain ⟨rfl, hfr2⟩ := hfr2
  have hfr3 : fr.toInt = F := by rw [hfr2, hfr0]; omega
  have loop : ∀ (f k : Nat) (g : Nat → Int64) (c d : Int64) (s0 : Nat → Int) (y7 y8 y10 : Option Value), k + f = W → ¬ (0 < (I : Int) ∧ mP st i ≤ 2 * F) → afl K A B F (mP st i) x k = some s0 → (∀ j, j < k → (g j).toInt = s0 j ∧ 0 ≤ s0 j ∧ s0 j ≤ 1000000) → G xp l xe (rmd (3)) xs xm xa xb xme xc D cy xad xA (YX12_holdsOut.2.1, YX12_holdsOut.1.cls, YX12_holdsOut.2.2.1, YX12_holdsOut.2.2.2) (Pi (fun (r : Int32) (u : St) => (∃ g c d, u = hS st g c d) ∧ r = b2 (stays K A B I W F (mP st i) x))) 34 ([some (.ref 31), some (.int (nI q)), some (.int (nI i)), some (.int (nI x)), some (.long fr), none, some (.int (nI k)), y7, y8, none, y10, none]) ([]) (hS st g c d) := by
    intro f
    induction f with
    | zero =>
      intro k g c d s0 y7 y8 y10 hk9 h0 hs hg
      refine g_ild6 eX12_holdsOut_34 ?_
      refine g_ald0 eX12_holdsOut_36 ?_
      refine g_getR (ci := 11) (j := 24) rfl (Nat.le_of_ble_eq_true rfl) (Nat.le_of_ble_eq_true rfl) (Nat.le_of_ble_eq_true rfl) rfl rfl fl_X12_46 eX12_holdsOut_37 ?_
      refine g_ild1 eX12_holdsOut_40 ?_
      refine g_iald rfl (Nat.le_of_ble_eq_true rfl) (vp_in_nI (n := q) (N := 5) (by omega) (by decide)) eX12_holdsOut_41 ?_
      rw [hc, hS_1, p1]
      refine g_icmp_ge eX12_holdsOut_42 (fun hb => ?_) (fun hb => ?_)
      · refine g_iconst (v := 1) (by decide) eX12_holdsOut_240 ?_
        refine g_zret (ty := .boolean) rfl (by first | rfl | assumption) eX12_holdsOut_241 ⟨_, rfl, ?_⟩
        try dsimp only
        refine ⟨⟨g, c, d, rfl⟩, b2_t ⟨h0, ?_⟩⟩
        rw [show W = k by omega, hs]
        rfl
      · exact absurd (nI_le (by omega) (by omega)) hb
    | succ f ih =>
      intro k g c d s0 y7 y8 y10 hk9 h0 hs hg
      obtain ⟨k1, k2, k3⟩ := p7 k (by omega)
      obtain ⟨w1, w2, w3, w4, w5, w6⟩ := p9 k (by omega)
      have hhi := fun j hj => afl_hi hs j hj
      have hcw : (nI (40 * q + k)).toNatClampNeg = 40 * q + k := nI_clamp (by omega)
      have hall : ∀ j, 0 ≤ s0 j ∧ s0 j ≤ 1000000 := fun j => by
        by_cases hj : j < k
        · exact (hg j hj).2
        · rw [hhi j (by omega)]; exact hF
      refine g_ild6 eX12_holdsOut_34 ?_
      refine g_ald0 eX12_holdsOut_36 ?_
      refine g_getR (ci := 11) (j := 24) rfl (Nat.le_of_ble_eq_true rfl) (Nat.le_of_ble_eq_true rfl) (Nat.le_of_ble_eq_true rfl) rfl rfl fl_X12_46 eX12_holdsOut_37 ?_
      refine g_ild1 eX12_holdsOut_40 ?_
      refine g_iald rfl (Nat.le_of_ble_eq_true rfl) (vp_in_nI (n := q) (N := 5) (by omega) (by decide)) eX12_holdsOut_41 ?_
      rw [hc, hS_1, p1]
      refine g_icmp_ge eX12_holdsOut_42 (fun hb => ?_) (fun hb => ?_)
      · exact absurd hb (nI_ge (by omega) (by omega))
      · have tail : ∀ (c d : Int64) (y8 y10 : Option Value), d.toInt = boundF (K k) (s0 (A k).toNat) (if K k = 4 ∨ K k = 5 then B k else s0 (B k).toNat) → G xp l xe (rmd (3)) xs xm xa xb xme xc D cy xad xA (YX12_holdsOut.2.1, YX12_holdsOut.1.cls, YX12_holdsOut.2.2.1, YX12_holdsOut.2.2.2) (Pi (fun (r : Int32) (u : St) => (∃ g c d, u = hS st g c d) ∧ r = b2 (stays K A B I W F (mP st i) x))) 183 ([some (.ref 31), some (.int (nI q)), some (.int (nI i)), some (.int (nI x)), some (.long fr), none, some (.int (nI k)), some (.int (nI (40 * q + k))), y8, none, y10, none]) ([]) (hS st g c d) := by
          intro c d y8 y10 hd
          have hbr := bound_rng (K k) (s0 (A k).toNat) (if K k = 4 ∨ K k = 5 then B k else s0 (B k).toNat) (hall _).1
          have hck : (nI k).toNatClampNeg = k := nI_clamp (by omega)
          refine g_ald0 eX12_holdsOut_183 ?_
          refine g_getR (ci := 11) (j := 66) rfl (Nat.le_of_ble_eq_true rfl) (Nat.le_of_ble_eq_true rfl) (Nat.le_of_ble_eq_true rfl) rfl rfl fl_X12_134 eX12_holdsOut_184 ?_
          refine g_ild6 eX12_holdsOut_187 ?_
          refine g_ald0 eX12_holdsOut_189 ?_
          refine g_getL (ci := 11) (j := 64) rfl (Nat.le_of_ble_eq_true rfl) (Nat.le_of_ble_eq_true rfl) (Nat.le_of_ble_eq_true rfl) rfl fl_X12_433 eX12_holdsOut_190 ?_
          rw [hS_B]
          refine g_last rfl (Nat.le_of_ble_eq_true rfl) (vp_in_nI (n := k) (N := 40) (by omega) (by decide)) eX12_holdsOut_193 ?_
          rw [hck, hS_put]
          refine g_ald0 eX12_holdsOut_194 ?_
          refine g_ild2 eX12_holdsOut_195 ?_
          refine g_ald0 eX12_holdsOut_196 ?_
          refine g_getL (ci := 11) (j := 64) rfl (Nat.le_of_ble_eq_true rfl) (Nat.le_of_ble_eq_true rfl) (Nat.le_of_ble_eq_true rfl) rfl fl_X12_433 eX12_holdsOut_197 ?_
          rw [hS_B]
          refine g_callVi (ci := 11) (w_isDrowned _ i hi d (by omega)) rfl (Nat.le_of_ble_eq_true rfl) (Nat.le_of_ble_eq_true rfl) rfl cv_X12_446 eX12_holdsOut_200 ⟨Nat.le_of_ble_eq_true rfl, Nat.le_of_ble_eq_true rfl⟩ rfl rfl (Nat.le_of_ble_eq_true rfl) (fun r u2 hr => ?_)
          obtain ⟨rfl, rfl⟩ := hr
          rw [hS_1, hd]
          refine g_if_eq eX12_holdsOut_203 (fun h203 => ?_) (fun h203 => ?_)
          · rw [b2_eq0] at h203
            have hs2 : afl K A B F (mP st i) x (k + 1) = some (fun j => if j = k then (if laidF x k then F else boundF (K k) (s0 (A k).toNat) (if K k = 4 ∨ K k = 5 then B k else s0 (B k).toNat)) else s0 j) := by
              show (match afl K A B F (mP st i) x k with | none => none | some s => _) = _
              rw [hs]
              exact if_neg h203
            have last : ∀ (g2 : Nat → Int64), (∀ j, j < k → g2 j = g j) → (g2 k).toInt = (if laidF x k then F else boundF (K k) (s0 (A k).toNat) (if K k = 4 ∨ K k = 5 then B k else s0 (B k).toNat)) → G xp l xe (rmd (3)) xs xm xa xb xme xc D cy xad xA (YX12_holdsOut.2.1, YX12_holdsOut.1.cls, YX12_holdsOut.2.2.1, YX12_holdsOut.2.2.2) (Pi (fun (r : Int32) (u : St) => (∃ g c d, u = hS st g c d) ∧ r = b2 (stays K A B I W F (mP st i) x))) 234 ([some (.ref 31), some (.int (nI q)), some (.int (nI i)), some (.int (nI x)), some (.long fr), none, some (.int (nI k)), some (.int (nI (40 * q + k))), y8, none, y10, none]) ([]) (hS st g2 c d) := by
              intro g2 hg2 hg3
              refine g_inc6 rfl (Nat.le_of_ble_eq_true rfl) rfl eX12_holdsOut_234 ?_
              refine g_goto eX12_holdsOut_237 ?_
              rw [inc1]
              refine ih (k + 1) g2 c d _ _ _ _ (by omega) h0 hs2 (fun j hj => ?_)
              by_cases hjk : j = k
              · subst hjk
                simp only [if_true]
                refine ⟨hg3, ?_⟩
                split <;> omega
              · simp only [hjk, if_false]
                rw [hg2 j (by omega)]
                exact hg j (by omega)
            refine g_ild6 eX12_holdsOut_208 ?_
            refine g_bipush (v := 12) (by decide) eX12_holdsOut_210 ?_
            refine g_icmp_ge eX12_holdsOut_212 (fun h212 => ?_) (fun h212 => ?_)
            · simp only [fa_le, Int32.reduceToInt] at h212
              rw [nI_toInt (by omega)] at h212
              refine last _ (fun j hj => ?_) ?_
              · unfold vp_updL; rw [if_neg (by omega)]
              · unfold vp_updL; rw [if_pos rfl, if_neg (fun h => by have := h.1; omega), hd]
            · simp only [fa_le, Int32.reduceToInt] at h212
              rw [nI_toInt (by omega)] at h212
              have e1 := shr_pow (nI x) (m0 := k) (by omega)
              rw [htx] at e1
              have h9 : 0 ≤ (nI x >>> (nI k &&& 31)).toInt := by rw [e1]; exact Int.ediv_nonneg (by omega) (Int.le_of_lt (Int.pow_pos (by decide)))
              have e2 := bit0 _ h9
              rw [e1] at e2
              refine g_ild3 eX12_holdsOut_215 ?_
              refine g_ild6 eX12_holdsOut_216 ?_
              refine g_ishr eX12_holdsOut_218 ?_
              refine g_iconst (v := 1) (by decide) eX12_holdsOut_219 ?_
              refine g_iand eX12_holdsOut_220 ?_
              refine g_iconst (v := 1) (by decide) eX12_holdsOut_221 ?_
              refine g_icmp_ne eX12_holdsOut_222 (fun h222 => ?_) (fun h222 => ?_)
              · rw [fa_eq, e2, o32] at h222
                refine last _ (fun j hj => ?_) ?_
                · unfold vp_updL; rw [if_neg (by omega)]
                · unfold vp_updL; rw [if_pos rfl, if_neg (fun h => h222 h.2), hd]
              · rw [fa_eq, e2, o32] at h222
                refine g_ald0 eX12_holdsOut_225 ?_
                refine g_getR (ci := 11) (j := 66) rfl (Nat.le_of_ble_eq_true rfl) (Nat.le_of_ble_eq_true rfl) (Nat.le_of_ble_eq_true rfl) rfl rfl fl_X12_134 eX12_holdsOut_226 ?_
                refine g_ild6 eX12_holdsOut_229 ?_
                refine g_lld4 eX12_holdsOut_231 ?_
                refine g_last rfl (Nat.le_of_ble_eq_true rfl) (vp_in_nI (n := k) (N := 40) (by omega) (by decide)) eX12_holdsOut_233 ?_
                rw [hck, hS_put]
                refine last _ (fun j hj => ?_) ?_
                · unfold vp_updL; rw [if_neg (by omega), if_neg (by omega)]
                · unfold vp_updL; rw [if_pos rfl, if_pos ⟨by omega, h222⟩, hfr3]
          · rw [b2_ne0] at h203
            refine g_iconst (v := 0) (by decide) eX12_holdsOut_206 ?_
            refine g_zret (ty := .boolean) rfl (by first | rfl | assumption) eX12_holdsOut_207 ⟨_, rfl, ?_⟩
            try dsimp only
            refine ⟨⟨_, c, d, rfl⟩, b2_f (fun hst => ?_)⟩
            have hn : afl K A B F (mP st i) x (k + 1) = none := by
              show (match afl K A B F (mP st i) x k with | none => none | some s => _) = _
              rw [hs]
              exact if_pos h203
            have h9 := afl_none hn f
            rw [show k + 1 + f = W by omega] at h9
            have h8 := hst.2
            rw [h9] at h8
            exact absurd h8 (by decide)
        have mid : ∀ (a : Int64) (y10 : Option Value), a.toInt = s0 (A k).toNat → G xp l xe (rmd (3)) xs xm xa xb xme xc D cy xad xA (YX12_holdsOut.2.1, YX12_holdsOut.1.cls, YX12_holdsOut.2.2.1, YX12_holdsOut.2.2.2) (Pi (fun (r : Int32) (u : St) => (∃ g c d, u = hS st g c d) ∧ r = b2 (stays K A B I W F (mP st i) x))) 81 ([some (.ref 31), some (.int (nI q)), some (.int (nI i)), some (.int (nI x)), some (.long fr), none, some (.int (nI k)), some (.int (nI (40 * q + k))), y8, none, y10, none]) ([.long a]) (hS st g c d) := by
          intro a y10 ha
          have hab := hall (A k).toNat
          refine g_lst8 rfl (Nat.le_of_ble_eq_true rfl) eX12_holdsOut_81 ?_
          refine g_ald0 eX12_holdsOut_83 ?_
          refine g_getR (ci := 11) (j := 25) rfl (Nat.le_of_ble_eq_true rfl) (Nat.le_of_ble_eq_true rfl) (Nat.le_of_ble_eq_true rfl) rfl rfl fl_X12_49 eX12_holdsOut_84 ?_
          refine g_ild7 eX12_holdsOut_87 ?_
          refine g_iald rfl (Nat.le_of_ble_eq_true rfl) (vp_in_nI (n := 40 * q + k) (N := 200) (by omega) (by decide)) eX12_holdsOut_89 ?_
          refine g_iconst (v := 3) (by decide) eX12_holdsOut_90 ?_
          rw [hcw, hS_1]
          have third : ∀ b : Int64, ¬ 3 < K k → b.toInt = s0 (B k).toNat → G xp l xe (rmd (3)) xs xm xa xb xme xc D cy xad xA (YX12_holdsOut.2.1, YX12_holdsOut.1.cls, YX12_holdsOut.2.2.1, YX12_holdsOut.2.2.2) (Pi (fun (r : Int32) (u : St) => (∃ g c d, u = hS st g c d) ∧ r = b2 (stays K A B I W F (mP st i) x))) 132 ([some (.ref 31), some (.int (nI q)), some (.int (nI i)), some (.int (nI x)), some (.long fr), none, some (.int (nI k)), some (.int (nI (40 * q + k))), some (.long a), none, y10, none]) ([.long b]) (hS st g c d) := by
            intro b h3 hb9
            have hbb := hall (B k).toNat
            refine g_lst10 rfl (Nat.le_of_ble_eq_true rfl) eX12_holdsOut_132 ?_
            refine g_ald0 eX12_holdsOut_134 ?_
            refine g_ald0 eX12_holdsOut_135 ?_
            refine g_getR (ci := 11) (j := 25) rfl (Nat.le_of_ble_eq_true rfl) (Nat.le_of_ble_eq_true rfl) (Nat.le_of_ble_eq_true rfl) rfl rfl fl_X12_49 eX12_holdsOut_136 ?_
            refine g_ild7 eX12_holdsOut_139 ?_
            refine g_iald rfl (Nat.le_of_ble_eq_true rfl) (vp_in_nI (n := 40 * q + k) (N := 200) (by omega) (by decide)) eX12_holdsOut_141 ?_
            refine g_ild2 eX12_holdsOut_142 ?_
            refine g_lconst (v := 0) rfl eX12_holdsOut_143 ?_
            refine g_lld8 eX12_holdsOut_144 ?_
            refine g_ald0 eX12_holdsOut_146 ?_
            refine g_getR (ci := 11) (j := 25) rfl (Nat.le_of_ble_eq_true rfl) (Nat.le_of_ble_eq_true rfl) (Nat.le_of_ble_eq_true rfl) rfl rfl fl_X12_49 eX12_holdsOut_147 ?_
            refine g_ild7 eX12_holdsOut_150 ?_
            refine g_iald rfl (Nat.le_of_ble_eq_true rfl) (vp_in_nI (n := 40 * q + k) (N := 200) (by omega) (by decide)) eX12_holdsOut_152 ?_
            refine g_iconst (v := 3) (by decide) eX12_holdsOut_153 ?_
            rw [hcw, hS_1]
            refine g_icmp_le eX12_holdsOut_154 (fun h154 => ?_) (fun h154 => ?_)
            · refine g_lconst (v := 0) rfl eX12_holdsOut_162 ?_
              refine g_ald0 eX12_holdsOut_163 ?_
              refine g_getR (ci := 11) (j := 25) rfl (Nat.le_of_ble_eq_true rfl) (Nat.le_of_ble_eq_true rfl) (Nat.le_of_ble_eq_true rfl) rfl rfl fl_X12_49 eX12_holdsOut_164 ?_
              refine g_ild7 eX12_holdsOut_167 ?_
              refine g_iald rfl (Nat.le_of_ble_eq_true rfl) (vp_in_nI (n := 40 * q + k) (N := 200) (by omega) (by decide)) eX12_holdsOut_169 ?_
              refine g_iconst (v := 3) (by decide) eX12_holdsOut_170 ?_
              rw [hcw, hS_1]
              refine g_icmp_le eX12_holdsOut_171 (fun h171 => ?_) (fun h171 => ?_)
              · refine g_lld10 eX12_holdsOut_178 ?_
                refine g_callVv (ci := 11) (w_makes (hS st g c d) _ i hi ho 0 a 0 b (by rw [k1]; exact ⟨w1, w2⟩) z8r (by rw [ha]; exact hab) z8r (by rw [hb9]; exact hbb) (fun _ => Int.le_refl 0)) rfl (Nat.le_of_ble_eq_true rfl) (Nat.le_of_ble_eq_true rfl) rfl cv_X12_439 eX12_holdsOut_180 ⟨Nat.le_of_ble_eq_true rfl, Nat.le_of_ble_eq_true rfl⟩ rfl rfl (Nat.le_of_ble_eq_true rfl) (fun u2 hu2 => ?_)
                obtain ⟨c2, d2, -, hd2, rfl⟩ := hu2
                rw [hS_mk]
                refine tail c2 d2 _ _ ?_
                rw [hd2, k1, ha, hb9, if_neg (by omega), if_neg (by omega)]
              · simp only [fa_le, Int32.reduceToInt] at h171
                rw [k1] at h171
                exact absurd (by omega) h3
            · simp only [fa_le, Int32.reduceToInt] at h154
              rw [k1] at h154
              exact absurd (by omega) h3
          refine g_icmp_le eX12_holdsOut_91 (fun h91 => ?_) (fun h91 => ?_)
          · simp only [fa_le, Int32.reduceToInt] at h91
            rw [k1] at h91
            have wB := w4 (by omega)
            rw [if_neg (by omega)] at k3
            refine g_ald0 eX12_holdsOut_105 ?_
            refine g_getR (ci := 11) (j := 27) rfl (Nat.le_of_ble_eq_true rfl) (Nat.le_of_ble_eq_true rfl) (Nat.le_of_ble_eq_true rfl) rfl rfl fl_X12_55 eX12_holdsOut_106 ?_
            refine g_ild7 eX12_holdsOut_109 ?_
            refine g_iald rfl (Nat.le_of_ble_eq_true rfl) (vp_in_nI (n := 40 * q + k) (N := 200) (by omega) (by decide)) eX12_holdsOut_111 ?_
            rw [hcw, hS_1]
            refine g_if_lt eX12_holdsOut_112 (fun h112 => ?_) (fun h112 => ?_)
            · simp only [fa_lt, Int32.reduceToInt] at h112
              rw [k3] at h112
              refine g_lld4 eX12_holdsOut_130 ?_
              refine third fr (by omega) ?_
              rw [hfr3, hhi]
              unfold toldF at h112
              unfold cOK at wB
              split at h112
              · omega
              · split at h112 <;> omega
            · simp only [fa_lt, Int32.reduceToInt] at h112
              rw [k3] at h112
              have hBk : 0 ≤ B k ∧ B k < k ∧ toldF (B k) = B k := by
                unfold toldF at h112 ⊢
                unfold cOK at wB
                split at h112
                · omega
                · split at h112
                  · rw [if_neg (by omega), if_pos (by omega)]; omega
                  · omega
              rw [hBk.2.2] at k3
              refine g_ald0 eX12_holdsOut_115 ?_
              refine g_getR (ci := 11) (j := 66) rfl (Nat.le_of_ble_eq_true rfl) (Nat.le_of_ble_eq_true rfl) (Nat.le_of_ble_eq_true rfl) rfl rfl fl_X12_134 eX12_holdsOut_116 ?_
              refine g_ald0 eX12_holdsOut_119 ?_
              refine g_getR (ci := 11) (j := 27) rfl (Nat.le_of_ble_eq_true rfl) (Nat.le_of_ble_eq_true rfl) (Nat.le_of_ble_eq_true rfl) rfl rfl fl_X12_55 eX12_holdsOut_120 ?_
              refine g_ild7 eX12_holdsOut_123 ?_
              refine g_iald rfl (Nat.le_of_ble_eq_true rfl) (vp_in_nI (n := 40 * q + k) (N := 200) (by omega) (by decide)) eX12_holdsOut_125 ?_
              rw [hcw, hS_1]
              refine g_lald rfl (Nat.le_of_ble_eq_true rfl) (vin (by rw [k3]; omega) (by rw [k3, hl40]; omega)) eX12_holdsOut_126 ?_
              refine g_goto eX12_holdsOut_127 ?_
              refine third _ (by omega) ?_
              rw [hS_g, clamp_to, k3]
              exact (hg _ (by omega)).1
          · simp only [fa_le, Int32.reduceToInt] at h91
            rw [k1] at h91
            rw [if_pos (by omega)] at k3
            have hBr : -13 ≤ B k ∧ B k ≤ 13 := by
              have := ht
              by_cases h4 : K k = 4
              · have := w5 h4; omega
              · have := w6 (by omega); omega
            refine g_ald0 eX12_holdsOut_94 ?_
            refine g_getR (ci := 11) (j := 27) rfl (Nat.le_of_ble_eq_true rfl) (Nat.le_of_ble_eq_true rfl) (Nat.le_of_ble_eq_true rfl) rfl rfl fl_X12_55 eX12_holdsOut_95 ?_
            refine g_ild7 eX12_holdsOut_98 ?_
            refine g_iald rfl (Nat.le_of_ble_eq_true rfl) (vp_in_nI (n := 40 * q + k) (N := 200) (by omega) (by decide)) eX12_holdsOut_100 ?_
            refine g_i2l eX12_holdsOut_101 ?_
            refine g_goto eX12_holdsOut_102 ?_
            rw [hcw, hS_1]
            refine g_lst10 rfl (Nat.le_of_ble_eq_true rfl) eX12_holdsOut_132 ?_
            refine g_ald0 eX12_holdsOut_134 ?_
            refine g_ald0 eX12_holdsOut_135 ?_
            refine g_getR (ci := 11) (j := 25) rfl (Nat.le_of_ble_eq_true rfl) (Nat.le_of_ble_eq_true rfl) (Nat.le_of_ble_eq_true rfl) rfl rfl fl_X12_49 eX12_holdsOut_136 ?_
            refine g_ild7 eX12_holdsOut_139 ?_
            refine g_iald rfl (Nat.le_of_ble_eq_true rfl) (vp_in_nI (n := 40 * q + k) (N := 200) (by omega) (by decide)) eX12_holdsOut_141 ?_
            refine g_ild2 eX12_holdsOut_142 ?_
            refine g_lconst (v := 0) rfl eX12_holdsOut_143 ?_
            refine g_lld8 eX12_holdsOut_144 ?_
            refine g_ald0 eX12_holdsOut_146 ?_
            refine g_getR (ci := 11) (j := 25) rfl (Nat.le_of_ble_eq_true rfl) (Nat.le_of_ble_eq_true rfl) (Nat.le_of_ble_eq_true rfl) rfl rfl fl_X12_49 eX12_holdsOut_147 ?_
            refine g_ild7 eX12_holdsOut_150 ?_
            refine g_iald rfl (Nat.le_of_ble_eq_true rfl) (vp_in_nI (n := 40 * q + k) (N := 200) (by omega) (by decide)) eX12_holdsOut_152 ?_
            refine g_iconst (v := 3) (by decide) eX12_holdsOut_153 ?_
            rw [hcw, hS_1]
            refine g_icmp_le eX12_holdsOut_154 (fun h154 => ?_) (fun h154 => ?_)
            · simp only [fa_le, Int32.reduceToInt] at h154
              rw [k1] at h154
              exact absurd h154 h91
            · refine g_lld10 eX12_holdsOut_157 ?_
              refine g_goto eX12_holdsOut_159 ?_
              refine g_ald0 eX12_holdsOut_163 ?_
              refine g_getR (ci := 11) (j := 25) rfl (Nat.le_of_ble_eq_true rfl) (Nat.le_of_ble_eq_true rfl) (Nat.le_of_ble_eq_true rfl) rfl rfl fl_X12_49 eX12_holdsOut_164 ?_
              refine g_ild7 eX12_holdsOut_167 ?_
              refine g_iald rfl (Nat.le_of_ble_eq_true rfl) (vp_in_nI (n := 40 * q + k) (N := 200) (by omega) (by decide)) eX12_holdsOut_169 ?_
              refine g_iconst (v := 3) (by decide) eX12_holdsOut_170 ?_
              rw [hcw, hS_1]
              refine g_icmp_le eX12_holdsOut_171 (fun h171 => ?_) (fun h171 => ?_)
              · simp only [fa_le, Int32.reduceToInt] at h171
                rw [k1] at h171
                exact absurd h171 h91
              · refine g_lconst (v := 0) rfl eX12_holdsOut_174 ?_
                refine g_goto eX12_holdsOut_175 ?_
                refine g_callVv (ci := 11) (w_makes (hS st g c d) _ i hi ho 0 a (st.1 45 (40 * q + k)).toInt64 0 (by rw [k1]; exact ⟨w1, w2⟩) z8r (by rw [ha]; exact hab) (by rw [tl, k3]; omega) z6r (by intro h4; rw [tl, k3]; rw [k1] at h4; have := w5 h4; omega)) rfl (Nat.le_of_ble_eq_true rfl) (Nat.le_of_ble_eq_true rfl) rfl cv_X12_439 eX12_holdsOut_180 ⟨Nat.le_of_ble_eq_true rfl, Nat.le_of_ble_eq_true rfl⟩ rfl rfl (Nat.le_of_ble_eq_true rfl) (fun u2 hu2 => ?_)
                obtain ⟨c2, d2, -, hd2, rfl⟩ := hu2
                rw [hS_mk]
                refine tail c2 d2 _ _ ?_
                rw [hd2, k1, ha, tl, k3, if_pos (by omega), if_pos (by omega)]
        refine g_bipush (v := 40) (by decide) eX12_holdsOut_45 ?_
        refine g_ild1 eX12_holdsOut_47 ?_
        refine g_imul eX12_holdsOut_48 ?_
        refine g_ild6 eX12_holdsOut_49 ?_
        refine g_iadd eX12_holdsOut_51 ?_
        rw [ix40 hq (by omega)]
        refine g_ist7 rfl (Nat.le_of_ble_eq_true rfl) eX12_holdsOut_52 ?_
        refine g_ald0 eX12_holdsOut_54 ?_
        refine g_getR (ci := 11) (j := 26) rfl (Nat.le_of_ble_eq_true rfl) (Nat.le_of_ble_eq_true rfl) (Nat.le_of_ble_eq_true rfl) rfl rfl fl_X12_52 eX12_holdsOut_55 ?_
        refine g_ild7 eX12_holdsOut_58 ?_
        refine g_iald rfl (Nat.le_of_ble_eq_true rfl) (vp_in_nI (n := 40 * q + k) (N := 200) (by omega) (by decide)) eX12_holdsOut_60 ?_
        rw [hcw, hS_1]
        refine g_if_lt eX12_holdsOut_61 (fun h61 => ?_) (fun h61 => ?_)
        · simp only [fa_lt, Int32.reduceToInt] at h61
          rw [k2] at h61
          refine g_lld4 eX12_holdsOut_79 ?_
          refine mid fr y10 ?_
          rw [hfr3, hhi]
          unfold toldF at h61
          unfold cOK at w3
          split at h61
          · omega
          · split at h61 <;> omega
        · simp only [fa_lt, Int32.reduceToInt] at h61
          rw [k2] at h61
          have hAk : 0 ≤ A k ∧ A k < k ∧ toldF (A k) = A k := by
            unfold toldF at h61 ⊢
            unfold cOK at w3
            split at h61
            · omega
            · split at h61
              · rw [if_neg (by omega), if_pos (by omega)]; omega
              · omega
          rw [hAk.2.2] at k2
          refine g_ald0 eX12_holdsOut_64 ?_
          refine g_getR (ci := 11) (j := 66) rfl (Nat.le_of_ble_eq_true rfl) (Nat.le_of_ble_eq_true rfl) (Nat.le_of_ble_eq_true rfl) rfl rfl fl_X12_134 eX12_holdsOut_65 ?_
          refine g_ald0 eX12_holdsOut_68 ?_
          refine g_getR (ci := 11) (j := 26) rfl (Nat.le_of_ble_eq_true rfl) (Nat.le_of_ble_eq_true rfl) (Nat.le_of_ble_eq_true rfl) rfl rfl fl_X12_52 eX12_holdsOut_69 ?_
          refine g_ild7 eX12_holdsOut_72 ?_
          refine g_iald rfl (Nat.le_of_ble_eq_true rfl) (vp_in_nI (n := 40 * q + k) (N := 200) (by omega) (by decide)) eX12_holdsOut_74 ?_
          rw [hcw, hS_1]
          refine g_lald rfl (Nat.le_of_ble_eq_true rfl) (vin (by rw [k2]; omega) (by rw [k2, hl40]; omega)) eX12_holdsOut_75 ?_
          refine g_goto eX12_holdsOut_76 ?_
          refine mid _ y10 ?_
          rw [hS_g, clamp_to, k2]
          exact (hg _ (by omega)).1
  have start : ¬ (0 < (I : Int) ∧ mP st i ≤ 2 * F) → G xp l xe (rmd (3)) xs xm xa xb xme xc D cy xad xA (YX12_holdsOut.2.1, YX12_holdsOut.1.cls, YX12_holdsOut.2.2.1, YX12_holdsOut.2.2.2) (Pi (fun (r : Int32) (u : St) => (∃ g c d, u = hS st g c d) ∧ r = b2 (stays K A B I W F (mP st i) x))) 31 ([some (.ref 31), some (.int (nI q)), some (.int (nI i)), some (.int (nI x)), some (.long fr), none, none, none, none, none, none, none]) ([]) (st) := by
    intro h0
    refine g_iconst (v := 0) (by decide) eX12_holdsOut_31 ?_
    refine g_ist6 rfl (Nat.le_of_ble_eq_true rfl) eX12_holdsOut_32 ?_
    have go := loop W 0 (st.2 71) (st.2 31 63) (st.2 31 64) (fun _ => F) none none none (by omega) h0 rfl (fun j hj => by omega)
    rw [hS_same] at go
    exact go
  refine g_lst4 rfl (Nat.le_of_ble_eq_true rfl) eX12_holdsOut_8 ?_
  refine g_ald0 eX12_holdsOut_10 ?_
  refine g_getR (ci := 11) (j := 21) rfl (Nat.le_of_ble_eq_true rfl) (Nat.le_of_ble_eq_true rfl) (Nat.le_of_ble_eq_true rfl) rfl rfl fl_X12_37 eX12_holdsOut_11 ?_
  refine g_ild1 eX12_holdsOut_14 ?_
  refine g_iald rfl (Nat.le_of_ble_eq_true rfl) (vp_in_nI (n := q) (N := 5) (by omega) (by decide)) eX12_holdsOut_15 ?_
  rw [hc, p2]
  refine g_if_le eX12_holdsOut_16 (fun hb => ?_) (fun hb => ?_)
  · rw [fa_le, z32, nI_toInt (by omega)] at hb
    exact start (by omega)
  · rw [fa_le, z32, nI_toInt (by omega)] at hb
    refine g_ald0 eX12_holdsOut_19 ?_
    refine g_ild2 eX12_holdsOut_20 ?_
    refine g_lld4 eX12_holdsOut_21 ?_
    refine g_callVi (ci := 11) (w_isDrowned _ i hi fr (by omega)) rfl (Nat.le_of_ble_eq_true rfl) (Nat.le_of_ble_eq_true rfl) rfl cv_X12_446 eX12_holdsOut_23 ⟨Nat.le_of_ble_eq_true rfl, Nat.le_of_ble_eq_true rfl⟩ rfl rfl (Nat.le_of_ble_eq_true rfl) (fun r3 st hr3 => ?_)
    obtain ⟨rfl, rfl⟩ := hr3
    refine g_if_eq eX12_holdsOut_26 (fun hd => ?_) (fun hd => ?_)
    · rw [b2_eq0, hfr3] at hd
      exact start (by omega)
    · rw [b2_ne0, hfr3] at hd
      refine g_iconst (v := 0) (by decide) eX12_holdsOut_29 ?_
      refine g_zret (ty := .boolean) rfl (by first | rfl | assumption) eX12_holdsOut_30 ⟨_, rfl, ?_⟩
      try dsimp only
      exact ⟨⟨st.2 71, st.2 31 63, st.2 31 64, (hS_same st).symm⟩, b2_f (fun hst => hst.1 ⟨by omega, hd⟩)⟩
end MODG
