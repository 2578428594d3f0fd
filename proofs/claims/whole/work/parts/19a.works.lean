/-! THE MODEL LAYS: works -/
abbrev vcd (c : Int) : Prop := -13 ≤ c ∧ c < 46
def tB (k : Nat) (b : Int) : Int := if k = 4 ∨ k = 5 then b else toldF b
def mwOK (pg : Nat) (st : St) (w : List WK) : Prop := st.1 42 pg = nI w.length ∧ w.length ≤ 40 ∧ ∀ j, j < w.length → st.1 43 (40 * pg + j) = nI (w.getD j (0, 0, 0)).1 ∧ (st.1 44 (40 * pg + j)).toInt = toldF (w.getD j (0, 0, 0)).2.1 ∧ (st.1 45 (40 * pg + j)).toInt = tB (w.getD j (0, 0, 0)).1 (w.getD j (0, 0, 0)).2.2
def lyFr (pg : Nat) (st u : St) : Prop := (∀ a, a ≠ 31 → ¬ (42 ≤ a ∧ a ≤ 45) → u.1 a = st.1 a) ∧ (∀ j, j ≠ 50 → u.1 31 j = st.1 31 j) ∧ u.2 = st.2 ∧ (∀ i, i ≠ pg → u.1 42 i = st.1 42 i) ∧ ∀ a, 43 ≤ a ∧ a ≤ 45 → ∀ i, i < 40 * pg ∨ 40 * pg + 40 ≤ i → u.1 a i = st.1 a i
theorem lyFr.refl (pg : Nat) (st : St) : lyFr pg st st := ⟨fun _ _ _ => rfl, fun _ _ => rfl, rfl, fun _ _ => rfl, fun _ _ _ _ => rfl⟩
theorem lyFr.trans {pg : Nat} {a b c : St} (h1 : lyFr pg a b) (h2 : lyFr pg b c) : lyFr pg a c := ⟨fun k x y => (h2.1 k x y).trans (h1.1 k x y), fun j x => (h2.2.1 j x).trans (h1.2.1 j x), h2.2.2.1.trans h1.2.2.1, fun i x => (h2.2.2.2.1 i x).trans (h1.2.2.2.1 i x), fun k x i y => (h2.2.2.2.2 k x i y).trans (h1.2.2.2.2 k x i y)⟩
def ldP (pg : Nat) (st : St) (X : List WK × Int) (r : Int32) (u : St) : Prop := lyFr pg st u ∧ (X.1.length ≤ 40 → u.1 31 50 = 0 ∧ mwOK pg u X.1 ∧ r.toInt = toldF X.2) ∧ (40 < X.1.length → u.1 31 50 = 1 ∧ u.1 42 pg = nI 40)
theorem told_neg {c : Int} (h : vcd c) : toldF c ≤ -30 ↔ c < 0 := by
  unfold toldF
  split
  · omega
  · split <;> omega
theorem told_open {c : Int} (h : c < 0) : toldF c = -29 + c := by
  unfold toldF
  rw [if_pos h]; omega
theorem told_rng {c : Int} (h : vcd c) : -42 ≤ toldF c ∧ toldF c < 40 := by
  unfold toldF
  split
  · omega
  · split <;> omega
/-- what stands still under the works -/
def lsM (bs pg : Nat) (st : St) : Prop := (st.1 31 17 = nI bs ∧ 2 ≤ bs ∧ bs ≤ 13) ∧ st.1 31 20 = nI pg ∧ pg ≤ 3
theorem lsM_fr {bs pg : Nat} {st u : St} (h : lsM bs pg st) (hf : lyFr pg st u) : lsM bs pg u := by
  unfold lsM
  rw [hf.2.1 17 (by decide), hf.2.1 20 (by decide)]
  exact h
section WORKM
variable {l : Launch} {D : va_G} {cy : Nat → ClassId} {bs pg : Nat}
theorem w_addsF (st : St) (hL : lsM bs pg st) (hw : st.1 42 pg = nI 40) (k x y : Int32) : Mi l D cy 0 YX12_adds [.ref 31, .int k, .int x, .int y] st (fun r u => lyFr pg st u ∧ u.1 31 50 = 1 ∧ u.1 42 pg = nI 40) := by
  have hpg := hL.2.2
  refine M.ofG [some (.ref 31), some (.int k), some (.int x), some (.int y), none] (by decide) (Nat.le_of_ble_eq_true rfl) rfl ?_
  intro xp xe xs xm xa xb xme xc xad xA
  refine g_ald0 eX12_adds_0 ?_
  refine g_getR (ci := 11) (j := 24) rfl (Nat.le_of_ble_eq_true rfl) (Nat.le_of_ble_eq_true rfl) (Nat.le_of_ble_eq_true rfl) rfl rfl fl_X12_46 eX12_adds_1 ?_
  refine g_ald0 eX12_adds_4 ?_
  refine g_getI (ci := 11) (j := 20) rfl (Nat.le_of_ble_eq_true rfl) (Nat.le_of_ble_eq_true rfl) (Nat.le_of_ble_eq_true rfl) rfl fl_X12_250 eX12_adds_5 ?_
  rw [hL.2.1]
  refine g_iald rfl (Nat.le_of_ble_eq_true rfl) (vp_in_nI (n := pg) (N := 5) (by omega) (by decide)) eX12_adds_8 ?_
  rw [nI_clamp (by omega), hw]
  refine g_bipush (v := 40) (by decide) eX12_adds_9 ?_
  refine g_icmp_ne eX12_adds_11 (fun hb => ?_) (fun hb => ?_)
  · exact absurd rfl hb
  · refine g_ald0 eX12_adds_14 ?_
    refine g_iconst (v := 1) (by decide) eX12_adds_15 ?_
    refine g_putZ (ci := 11) (j := 50) rfl (by first | exact Or.inl rfl | exact Or.inr rfl) rfl (Nat.le_of_ble_eq_true rfl) (Nat.le_of_ble_eq_true rfl) (Nat.le_of_ble_eq_true rfl) rfl fl_X12_335 eX12_adds_16 ?_
    refine g_iconst (v := 0) (by decide) eX12_adds_19 ?_
    refine g_iret rfl eX12_adds_20 ⟨_, rfl, ?_⟩
    try dsimp only
    refine ⟨⟨fun a h _ => sI_row h, fun j hj => by rw [sI_1, if_neg (by omega)], rfl, fun i _ => by rw [sI_row (by decide)], fun a ha i _ => by rw [sI_row (by omega)]⟩, ?_, ?_⟩
    · rw [sI_1, if_pos ⟨rfl, rfl⟩]
    · rw [sI_row (by decide)]; exact hw
theorem w_adds (st : St) (hL : lsM bs pg st) {w : List WK} (hw : mwOK pg st w) (hf : st.1 31 50 = 0) (k : Nat) (a b : Int) (kI x y : Int32) (hk : kI = nI k) (hx : x.toInt = toldF a) (hy : y.toInt = tB k b) : Mi l D cy 0 YX12_adds [.ref 31, .int kI, .int x, .int y] st (ldP pg st (adP w k a b)) := by
  have hlen : (adP w k a b).1.length = w.length + 1 := by unfold adP; simp
  have hpg := hL.2.2
  have hin : vp_in (nI pg) 5 := vp_in_nI (by omega) (by decide)
  have hcl : (nI pg).toNatClampNeg = pg := nI_clamp (by omega)
  obtain ⟨w1, w2, w3⟩ := hw
  by_cases h40 : w.length = 40
  · refine Mi.mono (w_addsF st hL (by rw [w1, h40]) kI x y) (fun r u h => ⟨h.1, fun q => by omega, fun _ => h.2⟩)
  · subst hk
    have hix : vp_in (nI (40 * pg + w.length)) 200 := vp_in_nI (by omega) (by decide)
    have hic : (nI (40 * pg + w.length)).toNatClampNeg = 40 * pg + w.length := nI_clamp (by omega)
    refine M.ofG [some (.ref 31), some (.int (nI k)), some (.int x), some (.int y), none] (by decide) (Nat.le_of_ble_eq_true rfl) rfl ?_
    intro xp xe xs xm xa xb xme xc xad xA
    refine g_ald0 eX12_adds_0 ?_
    refine g_getR (ci := 11) (j := 24) rfl (Nat.le_of_ble_eq_true rfl) (Nat.le_of_ble_eq_true rfl) (Nat.le_of_ble_eq_true rfl) rfl rfl fl_X12_46 eX12_adds_1 ?_
    refine g_ald0 eX12_adds_4 ?_
    refine g_getI (ci := 11) (j := 20) rfl (Nat.le_of_ble_eq_true rfl) (Nat.le_of_ble_eq_true rfl) (Nat.le_of_ble_eq_true rfl) rfl fl_X12_250 eX12_adds_5 ?_
    rw [hL.2.1]
    refine g_iald rfl (Nat.le_of_ble_eq_true rfl) hin eX12_adds_8 ?_
    rw [hcl, w1]
    refine g_bipush (v := 40) (by decide) eX12_adds_9 ?_
    refine g_icmp_ne eX12_adds_11 (fun hb => ?_) (fun hb => ?_)
    · refine g_bipush (v := 40) (by decide) eX12_adds_21 ?_
      refine g_ald0 eX12_adds_23 ?_
      refine g_getI (ci := 11) (j := 20) rfl (Nat.le_of_ble_eq_true rfl) (Nat.le_of_ble_eq_true rfl) (Nat.le_of_ble_eq_true rfl) rfl fl_X12_250 eX12_adds_24 ?_
      rw [hL.2.1]
      refine g_imul eX12_adds_27 ?_
      refine g_ald0 eX12_adds_28 ?_
      refine g_getR (ci := 11) (j := 24) rfl (Nat.le_of_ble_eq_true rfl) (Nat.le_of_ble_eq_true rfl) (Nat.le_of_ble_eq_true rfl) rfl rfl fl_X12_46 eX12_adds_29 ?_
      refine g_ald0 eX12_adds_32 ?_
      refine g_getI (ci := 11) (j := 20) rfl (Nat.le_of_ble_eq_true rfl) (Nat.le_of_ble_eq_true rfl) (Nat.le_of_ble_eq_true rfl) rfl fl_X12_250 eX12_adds_33 ?_
      rw [hL.2.1]
      refine g_iald rfl (Nat.le_of_ble_eq_true rfl) hin eX12_adds_36 ?_
      rw [hcl, w1]
      refine g_iadd eX12_adds_37 ?_
      rw [show (40 : Int32) = nI 40 from rfl, show nI 40 * nI pg = nI (40 * pg) from (Int32.ofNat_mul _ _).symm, nI_add]
      refine g_ist4 rfl (Nat.le_of_ble_eq_true rfl) eX12_adds_38 ?_
      refine g_ald0 eX12_adds_40 ?_
      refine g_getR (ci := 11) (j := 25) rfl (Nat.le_of_ble_eq_true rfl) (Nat.le_of_ble_eq_true rfl) (Nat.le_of_ble_eq_true rfl) rfl rfl fl_X12_49 eX12_adds_41 ?_
      refine g_ild4 eX12_adds_44 ?_
      refine g_ild1 eX12_adds_46 ?_
      refine g_iast rfl (Nat.le_of_ble_eq_true rfl) hix eX12_adds_47 ?_
      refine g_ald0 eX12_adds_48 ?_
      refine g_getR (ci := 11) (j := 26) rfl (Nat.le_of_ble_eq_true rfl) (Nat.le_of_ble_eq_true rfl) (Nat.le_of_ble_eq_true rfl) rfl rfl fl_X12_52 eX12_adds_49 ?_
      refine g_ild4 eX12_adds_52 ?_
      refine g_ild2 eX12_adds_54 ?_
      refine g_iast rfl (Nat.le_of_ble_eq_true rfl) hix eX12_adds_55 ?_
      refine g_ald0 eX12_adds_56 ?_
      refine g_getR (ci := 11) (j := 27) rfl (Nat.le_of_ble_eq_true rfl) (Nat.le_of_ble_eq_true rfl) (Nat.le_of_ble_eq_true rfl) rfl rfl fl_X12_55 eX12_adds_57 ?_
      refine g_ild4 eX12_adds_60 ?_
      refine g_ild3 eX12_adds_62 ?_
      refine g_iast rfl (Nat.le_of_ble_eq_true rfl) hix eX12_adds_63 ?_
      rw [hic]
      have p2 : (sI (sI (sI st 43 (40 * pg + w.length) (nI k)) 44 (40 * pg + w.length) x) 45 (40 * pg + w.length) y).1 31 20 = nI pg := hL.2.1
      have q2 : (sI (sI (sI st 43 (40 * pg + w.length) (nI k)) 44 (40 * pg + w.length) x) 45 (40 * pg + w.length) y).1 42 pg = nI w.length := w1
      refine g_ald0 eX12_adds_64 ?_
      refine g_getR (ci := 11) (j := 24) rfl (Nat.le_of_ble_eq_true rfl) (Nat.le_of_ble_eq_true rfl) (Nat.le_of_ble_eq_true rfl) rfl rfl fl_X12_46 eX12_adds_65 ?_
      refine g_ald0 eX12_adds_68 ?_
      refine g_getI (ci := 11) (j := 20) rfl (Nat.le_of_ble_eq_true rfl) (Nat.le_of_ble_eq_true rfl) (Nat.le_of_ble_eq_true rfl) rfl fl_X12_250 eX12_adds_69 ?_
      rw [p2]
      refine g_dup2 rfl rfl eX12_adds_72 ?_
      refine g_iald rfl (Nat.le_of_ble_eq_true rfl) hin eX12_adds_73 ?_
      rw [hcl, q2]
      refine g_iconst (v := 1) (by decide) eX12_adds_74 ?_
      refine g_iadd eX12_adds_75 ?_
      rw [show nI w.length + 1 = nI (w.length + 1) from nI_1 _]
      refine g_iast rfl (Nat.le_of_ble_eq_true rfl) hin eX12_adds_76 ?_
      refine g_ald0 eX12_adds_77 ?_
      refine g_getR (ci := 11) (j := 24) rfl (Nat.le_of_ble_eq_true rfl) (Nat.le_of_ble_eq_true rfl) (Nat.le_of_ble_eq_true rfl) rfl rfl fl_X12_46 eX12_adds_78 ?_
      refine g_ald0 eX12_adds_81 ?_
      refine g_getI (ci := 11) (j := 20) rfl (Nat.le_of_ble_eq_true rfl) (Nat.le_of_ble_eq_true rfl) (Nat.le_of_ble_eq_true rfl) rfl fl_X12_250 eX12_adds_82 ?_
      rw [hcl, show (sI (sI (sI (sI st 43 (40 * pg + w.length) (nI k)) 44 (40 * pg + w.length) x) 45 (40 * pg + w.length) y) 42 pg (nI (w.length + 1))).1 31 20 = nI pg from hL.2.1]
      refine g_iald rfl (Nat.le_of_ble_eq_true rfl) hin eX12_adds_85 ?_
      rw [hcl, show (sI (sI (sI (sI st 43 (40 * pg + w.length) (nI k)) 44 (40 * pg + w.length) x) 45 (40 * pg + w.length) y) 42 pg (nI (w.length + 1))).1 42 pg = nI (w.length + 1) by rw [sI_at, if_pos rfl]]
      refine g_iconst (v := 1) (by decide) eX12_adds_86 ?_
      refine g_isub eX12_adds_87 ?_
      rw [show nI (w.length + 1) - 1 = nI w.length from nI_pred _]
      refine g_iret rfl eX12_adds_88 ⟨_, rfl, ?_⟩
      try dsimp only
      refine ⟨⟨fun c h1 h2 => ?_, fun j hj => ?_, rfl, fun i hi => ?_, fun c hc i hi => ?_⟩, fun _ => ⟨?_, ⟨?_, ?_, fun j hj => ?_⟩, ?_⟩, fun q => by omega⟩
      · rw [sI_row (by omega), sI_row (by omega), sI_row (by omega), sI_row (by omega)]
      · rw [sI_row (by decide), sI_row (by decide), sI_row (by decide), sI_row (by decide)]
      · rw [sI_at, if_neg hi, sI_row (by decide), sI_row (by decide), sI_row (by decide)]
      · rw [sI_row (by omega)]
        rw [sI_1, if_neg (by omega), sI_1, if_neg (by omega), sI_1, if_neg (by omega)]
      · rw [sI_row (by decide), sI_row (by decide), sI_row (by decide), sI_row (by decide)]; exact hf
      · rw [sI_at, if_pos rfl, hlen]
      · omega
      · rw [hlen] at hj
        show _ = nI ((w ++ [(k, a, b)]).getD j (0, 0, 0)).1 ∧ _ = toldF ((w ++ [(k, a, b)]).getD j (0, 0, 0)).2.1 ∧ _ = tB ((w ++ [(k, a, b)]).getD j (0, 0, 0)).1 ((w ++ [(k, a, b)]).getD j (0, 0, 0)).2.2
        rw [getD_app]
        rw [sI_row (a := 43) (by decide), sI_row (a := 43) (by decide), sI_row (a := 43) (by decide), sI_at, sI_row (a := 44) (by decide), sI_row (a := 44) (by decide), sI_at, sI_row (a := 44) (by decide), sI_row (a := 45) (by decide), sI_at, sI_row (a := 45) (by decide), sI_row (a := 45) (by decide)]
        by_cases e : j = w.length
        · simp only [if_pos (show 40 * pg + j = 40 * pg + w.length by omega), if_pos e, if_neg (show ¬ j < w.length by omega)]
          exact ⟨by trivial, hx, hy⟩
        · simp only [if_neg (show ¬ 40 * pg + j = 40 * pg + w.length by omega), if_pos (show j < w.length by omega)]
          exact w3 j (by omega)
      · rw [nI_toInt (by omega)]
        show (w.length : Int) = toldF (w.length : Int)
        unfold toldF
        rw [if_neg (by omega), if_pos (by omega)]
    · exact absurd ((nI_eq (b := 40) (by omega) (by omega)).mp hb) h40
theorem opnd {x : Int32} {c : Int} (hx : x.toInt = toldF c) (h : vcd c) : (-30 - x).toInt = -30 - toldF c := by
  have h1 := told_rng h
  have e : (-30 : Int32).toInt = -30 := rfl
  rw [fb_subI (by rw [e, hx]; omega) (by rw [e, hx]; omega), e, hx]
theorem ld_same {st : St} {w : List WK} (hw : mwOK pg st w) (hf : st.1 31 50 = 0) {c : Int} {r : Int32} (hr : r.toInt = toldF c) : ldP pg st (w, c) r st := ⟨lyFr.refl _ _, fun _ => ⟨hf, hw, hr⟩, fun q => by have := hw.2.1; have q2 : 40 < w.length := q; omega⟩
theorem rem_nn {x y : Int32} (hx : 0 ≤ x.toInt) (hy : 0 < y.toInt) : (x - x / y * y).toInt = x.toInt % y.toInt := by
  rw [rem32 (by omega), emod_of_tmod hy (by
    rw [Int.tmod_eq_emod_of_nonneg hx]
    exact Int.emod_nonneg _ (by omega))]
theorem open_told (z : Int) : toldF (-1 - z % (bs : Int)) = -30 - z % (bs : Int) ∨ bs = 0 := by
  by_cases h : bs = 0
  · exact Or.inr h
  · have h1 := Int.emod_nonneg z (show (bs : Int) ≠ 0 by omega)
    left
    rw [told_open (by omega)]
    omega
theorem w_plus (st : St) (hL : lsM bs pg st) {w : List WK} (hw : mwOK pg st w) (hf : st.1 31 50 = 0) (a b : Int) (x y : Int32) (hx : x.toInt = toldF a) (hy : y.toInt = toldF b) (ha : vcd a) (hb : vcd b) : Mi l D cy 1 YX12_plus [.ref 31, .int x, .int y] st (ldP pg st (plP bs w a b)) := by
  have hna : x.toInt ≤ -30 ↔ a < 0 := by rw [hx]; exact told_neg ha
  have hnb : y.toInt ≤ -30 ↔ b < 0 := by rw [hy]; exact told_neg hb
  have oa := opnd hx ha
  have ob := opnd hy hb
  have hbs := hL.1
  have hbi : (nI bs).toInt = (bs : Int) := nI_toInt (by omega)
  have hne : ¬ nI bs = 0 := nI_ne0 (by omega) (by omega)
  refine M.ofG [some (.ref 31), some (.int x), some (.int y), none, none] (by decide) (Nat.le_of_ble_eq_true rfl) rfl ?_
  intro xp xe xs xm xa xb xme xc xad xA
  -- one open: k and the other
  have one : ∀ (k c : Int) (kI cI : Int32), kI.toInt = k → cI.toInt = toldF c → vcd c → ¬ c < 0 → plP bs w a b = oaP bs w c k → G xp l xe (rmd (1)) xs xm xa xb xme xc D cy xad xA (YX12_plus.2.1, YX12_plus.1.cls, YX12_plus.2.2.1, YX12_plus.2.2.2) (Pi (ldP pg st (plP bs w a b))) 79 ([some (.ref 31), some (.int x), some (.int y), some (.int kI), some (.int cI)]) ([]) (st) := by
    intro k c kI cI hk hc hvc hcn hP
    rw [hP]
    unfold oaP
    rw [if_neg hcn]
    refine g_ild3 eX12_plus_79 ?_
    refine g_if_ne eX12_plus_80 (fun hb1 => ?_) (fun hb1 => ?_)
    · have e : ¬ k = 0 := fun z => hb1 ((fa_eq kI 0).mpr (by rw [hk, z]; rfl))
      rw [if_neg e]
      refine g_ald0 eX12_plus_88 ?_
      refine g_iconst (v := 4) (by decide) eX12_plus_89 ?_
      refine g_ild4 eX12_plus_90 ?_
      refine g_ild3 eX12_plus_92 ?_
      refine g_callVi (ci := 11) (w_adds st hL hw hf 4 c k 4 cI kI rfl hc (by rw [hk]; rfl)) rfl (Nat.le_of_ble_eq_true rfl) (Nat.le_of_ble_eq_true rfl) rfl cv_X12_345 eX12_plus_93 ⟨Nat.le_of_ble_eq_true rfl, Nat.le_of_ble_eq_true rfl⟩ rfl rfl (Nat.le_of_ble_eq_true rfl) (fun r u h => ?_)
      exact g_iret rfl eX12_plus_96 ⟨_, rfl, h⟩
    · have e : k = 0 := by rw [← hk, hb1]; rfl
      rw [if_pos e]
      refine g_ild4 eX12_plus_83 ?_
      refine g_goto eX12_plus_85 ?_
      exact g_iret rfl eX12_plus_96 ⟨_, rfl, (ld_same hw hf hc)⟩
  have mid : ¬ (a < 0 ∧ b < 0) → G xp l xe (rmd (1)) xs xm xa xb xme xc D cy xad xA (YX12_plus.2.1, YX12_plus.1.cls, YX12_plus.2.2.1, YX12_plus.2.2.2) (Pi (ldP pg st (plP bs w a b))) 32 ([some (.ref 31), some (.int x), some (.int y), none, none]) ([]) (st) := by
    intro hnn
    refine g_ild1 eX12_plus_32 ?_
    refine g_callSi (w_isOpen st x) cs_X12_339 eX12_plus_33 ⟨Nat.le_of_ble_eq_true rfl, Nat.le_of_ble_eq_true rfl⟩ rfl rfl (Nat.le_of_ble_eq_true rfl) (fun r st h9 => ?_)
    obtain ⟨rfl, rfl⟩ := h9
    refine g_if_ne eX12_plus_36 (fun hb1 => ?_) (fun hb1 => ?_)
    · rw [b2_ne0, hna] at hb1
      refine g_ild1 eX12_plus_46 ?_
      refine g_callSi (w_isOpen st x) cs_X12_339 eX12_plus_47 ⟨Nat.le_of_ble_eq_true rfl, Nat.le_of_ble_eq_true rfl⟩ rfl rfl (Nat.le_of_ble_eq_true rfl) (fun r st h9 => ?_)
      obtain ⟨rfl, rfl⟩ := h9
      refine g_if_eq eX12_plus_50 (fun hb2 => ?_) (fun hb2 => ?_)
      · rw [b2_eq0, hna] at hb2
        exact absurd hb1 hb2
      · refine g_ild1 eX12_plus_53 ?_
        refine g_callSi (w_opened st x) cs_X12_342 eX12_plus_54 ⟨Nat.le_of_ble_eq_true rfl, Nat.le_of_ble_eq_true rfl⟩ rfl rfl (Nat.le_of_ble_eq_true rfl) (fun r st h9 => ?_)
        obtain ⟨rfl, rfl⟩ := h9
        refine g_goto eX12_plus_57 ?_
        refine g_ist3 rfl (Nat.le_of_ble_eq_true rfl) eX12_plus_64 ?_
        refine g_ild1 eX12_plus_65 ?_
        refine g_callSi (w_isOpen st x) cs_X12_339 eX12_plus_66 ⟨Nat.le_of_ble_eq_true rfl, Nat.le_of_ble_eq_true rfl⟩ rfl rfl (Nat.le_of_ble_eq_true rfl) (fun r st h9 => ?_)
        obtain ⟨rfl, rfl⟩ := h9
        refine g_if_eq eX12_plus_69 (fun hb3 => ?_) (fun hb3 => ?_)
        · rw [b2_eq0, hna] at hb3
          exact absurd hb1 hb3
        · refine g_ild2 eX12_plus_72 ?_
          refine g_goto eX12_plus_73 ?_
          refine g_ist4 rfl (Nat.le_of_ble_eq_true rfl) eX12_plus_77 ?_
          refine one (-1 - a) b _ _ (by rw [oa, told_open hb1]; omega) hy hb (fun z => hnn ⟨hb1, z⟩) ?_
          unfold plP
          rw [if_pos hb1]
    · rw [b2_eq0, hna] at hb1
      refine g_ild2 eX12_plus_39 ?_
      refine g_callSi (w_isOpen st y) cs_X12_339 eX12_plus_40 ⟨Nat.le_of_ble_eq_true rfl, Nat.le_of_ble_eq_true rfl⟩ rfl rfl (Nat.le_of_ble_eq_true rfl) (fun r st h9 => ?_)
      obtain ⟨rfl, rfl⟩ := h9
      refine g_if_eq eX12_plus_43 (fun hb2 => ?_) (fun hb2 => ?_)
      · rw [b2_eq0, hnb] at hb2
        refine g_ald0 eX12_plus_97 ?_
        refine g_iconst (v := 1) (by decide) eX12_plus_98 ?_
        refine g_ild1 eX12_plus_99 ?_
        refine g_ild2 eX12_plus_100 ?_
        refine g_callVi (ci := 11) (w_adds st hL hw hf 1 a b 1 x y rfl hx (by rw [hy]; rfl)) rfl (Nat.le_of_ble_eq_true rfl) (Nat.le_of_ble_eq_true rfl) rfl cv_X12_345 eX12_plus_101 ⟨Nat.le_of_ble_eq_true rfl, Nat.le_of_ble_eq_true rfl⟩ rfl rfl (Nat.le_of_ble_eq_true rfl) (fun r u h => ?_)
        refine g_iret rfl eX12_plus_104 ⟨_, rfl, ?_⟩
        try dsimp only
        unfold plP
        rw [if_neg hb1, if_neg hb2]
        exact h
      · rw [b2_ne0, hnb] at hb2
        refine g_ild1 eX12_plus_46 ?_
        refine g_callSi (w_isOpen st x) cs_X12_339 eX12_plus_47 ⟨Nat.le_of_ble_eq_true rfl, Nat.le_of_ble_eq_true rfl⟩ rfl rfl (Nat.le_of_ble_eq_true rfl) (fun r st h9 => ?_)
        obtain ⟨rfl, rfl⟩ := h9
        refine g_if_eq eX12_plus_50 (fun hb3 => ?_) (fun hb3 => ?_)
        · refine g_ild2 eX12_plus_60 ?_
          refine g_callSi (w_opened st y) cs_X12_342 eX12_plus_61 ⟨Nat.le_of_ble_eq_true rfl, Nat.le_of_ble_eq_true rfl⟩ rfl rfl (Nat.le_of_ble_eq_true rfl) (fun r st h9 => ?_)
          obtain ⟨rfl, rfl⟩ := h9
          refine g_ist3 rfl (Nat.le_of_ble_eq_true rfl) eX12_plus_64 ?_
          refine g_ild1 eX12_plus_65 ?_
          refine g_callSi (w_isOpen st x) cs_X12_339 eX12_plus_66 ⟨Nat.le_of_ble_eq_true rfl, Nat.le_of_ble_eq_true rfl⟩ rfl rfl (Nat.le_of_ble_eq_true rfl) (fun r st h9 => ?_)
          obtain ⟨rfl, rfl⟩ := h9
          refine g_if_eq eX12_plus_69 (fun hb4 => ?_) (fun hb4 => ?_)
          · refine g_ild1 eX12_plus_76 ?_
            refine g_ist4 rfl (Nat.le_of_ble_eq_true rfl) eX12_plus_77 ?_
            refine one (-1 - b) a _ _ (by rw [ob, told_open hb2]; omega) hx ha hb1 ?_
            unfold plP
            rw [if_neg hb1, if_pos hb2]
          · rw [b2_ne0, hna] at hb4
            exact absurd hb4 hb1
        · rw [b2_ne0, hna] at hb3
          exact absurd hb3 hb1
  refine g_ild1 eX12_plus_0 ?_
  refine g_callSi (w_isOpen st x) cs_X12_339 eX12_plus_1 ⟨Nat.le_of_ble_eq_true rfl, Nat.le_of_ble_eq_true rfl⟩ rfl rfl (Nat.le_of_ble_eq_true rfl) (fun r st h9 => ?_)
  obtain ⟨rfl, rfl⟩ := h9
  refine g_if_eq eX12_plus_4 (fun hb1 => ?_) (fun hb1 => ?_)
  · rw [b2_eq0, hna] at hb1
    exact mid (fun q => hb1 q.1)
  · rw [b2_ne0, hna] at hb1
    refine g_ild2 eX12_plus_7 ?_
    refine g_callSi (w_isOpen st y) cs_X12_339 eX12_plus_8 ⟨Nat.le_of_ble_eq_true rfl, Nat.le_of_ble_eq_true rfl⟩ rfl rfl (Nat.le_of_ble_eq_true rfl) (fun r st h9 => ?_)
    obtain ⟨rfl, rfl⟩ := h9
    refine g_if_eq eX12_plus_11 (fun hb2 => ?_) (fun hb2 => ?_)
    · rw [b2_eq0, hnb] at hb2
      exact mid (fun q => hb2 q.2)
    · rw [b2_ne0, hnb] at hb2
      refine g_bipush (v := (-30)) (by decide) eX12_plus_14 ?_
      refine g_ild1 eX12_plus_16 ?_
      refine g_callSi (w_opened st x) cs_X12_342 eX12_plus_17 ⟨Nat.le_of_ble_eq_true rfl, Nat.le_of_ble_eq_true rfl⟩ rfl rfl (Nat.le_of_ble_eq_true rfl) (fun r st h9 => ?_)
      obtain ⟨rfl, rfl⟩ := h9
      refine g_ild2 eX12_plus_20 ?_
      refine g_callSi (w_opened st y) cs_X12_342 eX12_plus_21 ⟨Nat.le_of_ble_eq_true rfl, Nat.le_of_ble_eq_true rfl⟩ rfl rfl (Nat.le_of_ble_eq_true rfl) (fun r st h9 => ?_)
      obtain ⟨rfl, rfl⟩ := h9
      have oa2 := told_open hb1
      have ob2 := told_open hb2
      have es : (-30 - x + (-30 - y)).toInt = (-1 - b) + (-1 - a) := by rw [fb_addI (by rw [oa, ob]; omega) (by rw [oa, ob]; omega), oa, ob, oa2, ob2]; omega
      refine g_iadd eX12_plus_24 ?_
      refine g_ald0 eX12_plus_25 ?_
      refine g_getI (ci := 11) (j := 17) rfl (Nat.le_of_ble_eq_true rfl) (Nat.le_of_ble_eq_true rfl) (Nat.le_of_ble_eq_true rfl) rfl fl_X12_174 eX12_plus_26 ?_
      rw [hbs.1]
      generalize -30 - x + (-30 - y) = z at es
      clear oa ob hna hnb one mid
      refine g_irem hne eX12_plus_29 ?_
      have er := rem_nn (x := z) (y := nI bs) (by rw [es]; omega) (by rw [hbi]; omega)
      rw [es, hbi] at er
      generalize z - z / nI bs * nI bs = z2 at er
      have hr := em_rng ((-1 - b) + (-1 - a)) hbs.2.1
      refine g_isub eX12_plus_30 ?_
      refine g_iret rfl eX12_plus_31 ⟨_, rfl, ?_⟩
      try dsimp only
      unfold plP oaP
      rw [if_pos hb1, if_pos hb2]
      refine ld_same hw hf ?_
      have e30 : (-30 : Int32).toInt = -30 := rfl
      rw [fb_subI (by rw [e30, er]; omega) (by rw [e30, er]; omega), e30, er]
      rcases open_told (bs := bs) ((-1 - b) + (-1 - a)) with q | q
      · exact q.symm
      · omega
end WORKM
