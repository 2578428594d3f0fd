/-! SealedSumsModel: steps, costs, layings that hold -/
section MODF
variable {l : Launch} {D : va_G} {cy : Nat → ClassId}
set_option maxHeartbeats 4000000 in
theorem w_step (st s1 : St) (hT : sI st 31 18 0 = s1) (np : Nat) (hn : s1.1 31 19 = nI np) (h4 : np ≤ 4) (hw : ∀ q, q < np → 0 ≤ (s1.1 42 q).toInt ∧ (s1.1 42 q).toInt ≤ 40) (x k w : Int32) : Mi l D cy 1 YX12_step [.ref 31, .int x, .int k, .int w] st (fun r u => u = s1 ∧ r = if (isS np x ∧ 0 ≤ k.toInt ∧ k.toInt < (s1.1 42 (qI x)).toInt) ∧ 0 ≤ w.toInt ∧ w.toInt ≤ 2 then (if w.toInt = 0 then s1.1 43 (40 * qI x + qI k) else if w.toInt = 1 then s1.1 44 (40 * qI x + qI k) else s1.1 45 (40 * qI x + qI k)) else -100) := by
  have hcn : (s1.1 31 19).toInt = np := by rw [hn, nI_toInt (by omega)]
  have e0 : (0 : Int32).toInt = 0 := rfl
  have e2 : (2 : Int32).toInt = 2 := rfl
  refine M.ofG [some (.ref 31), some (.int x), some (.int k), some (.int w), none] (by decide) (Nat.le_of_ble_eq_true rfl) rfl ?_
  intro xp xe xs xm xa xb xme xc xad xA
  have bad : ¬ ((isS np x ∧ 0 ≤ k.toInt ∧ k.toInt < (s1.1 42 (qI x)).toInt) ∧ 0 ≤ w.toInt ∧ w.toInt ≤ 2) → G xp l xe (rmd (1)) xs xm xa xb xme xc D cy xad xA (YX12_step.2.1, YX12_step.1.cls, YX12_step.2.2.1, YX12_step.2.2.2) (Pi (fun (r : Int32) (u : St) => u = s1 ∧ r = if (isS np x ∧ 0 ≤ k.toInt ∧ k.toInt < (s1.1 42 (qI x)).toInt) ∧ 0 ≤ w.toInt ∧ w.toInt ≤ 2 then (if w.toInt = 0 then s1.1 43 (40 * qI x + qI k) else if w.toInt = 1 then s1.1 44 (40 * qI x + qI k) else s1.1 45 (40 * qI x + qI k)) else -100)) 38 ([some (.ref 31), some (.int x), some (.int k), some (.int w), none]) ([]) (s1) := by
    intro hb
    refine g_bipush (v := (-100)) (by decide) eX12_step_38 ?_
    refine g_iret rfl eX12_step_40 ⟨_, rfl, ?_⟩
    try dsimp only
    rw [if_neg hb]
    exact ⟨rfl, rfl⟩
  refine g_ald0 eX12_step_0 ?_
  refine g_iconst (v := 0) (by decide) eX12_step_1 ?_
  refine g_putI (ci := 11) (j := 18) rfl rfl (Nat.le_of_ble_eq_true rfl) (Nat.le_of_ble_eq_true rfl) (Nat.le_of_ble_eq_true rfl) rfl fl_X12_177 eX12_step_2 ?_
  rw [hT]
  refine g_ald0 eX12_step_5 ?_
  refine g_ild1 eX12_step_6 ?_
  refine g_callVi (ci := 11) (w_isProgram _ x) rfl (Nat.le_of_ble_eq_true rfl) (Nat.le_of_ble_eq_true rfl) rfl cv_X12_461 eX12_step_7 ⟨Nat.le_of_ble_eq_true rfl, Nat.le_of_ble_eq_true rfl⟩ rfl rfl (Nat.le_of_ble_eq_true rfl) (fun r s1 h => ?_)
  obtain ⟨rfl, rfl⟩ := h
  refine g_if_eq eX12_step_10 (fun hb => ?_) (fun hb => ?_)
  · rw [b2_eq0, hcn] at hb
    exact bad (fun h => hb h.1.1)
  · rw [b2_ne0, hcn] at hb
    obtain ⟨q, hq, rfl⟩ := as_nI hb
    have e : qI (nI q) = q := nI_clamp (by omega)
    have hc : (nI q).toNatClampNeg = q := e
    have hwq := hw q hq
    have es : (s1.1 42 q - 1).toInt = (s1.1 42 q).toInt - 1 := by rw [fb_subI] <;> rw [o32] <;> omega
    refine g_ild2 eX12_step_13 ?_
    refine g_iconst (v := 0) (by decide) eX12_step_14 ?_
    refine g_ald0 eX12_step_15 ?_
    refine g_getR (ci := 11) (j := 24) rfl (Nat.le_of_ble_eq_true rfl) (Nat.le_of_ble_eq_true rfl) (Nat.le_of_ble_eq_true rfl) rfl rfl fl_X12_46 eX12_step_16 ?_
    refine g_ild1 eX12_step_19 ?_
    refine g_iald rfl (Nat.le_of_ble_eq_true rfl) (vp_in_nI (n := q) (N := 5) (by omega) (by decide)) eX12_step_20 ?_
    refine g_iconst (v := 1) (by decide) eX12_step_21 ?_
    refine g_isub eX12_step_22 ?_
    rw [hc]
    refine g_callSi (w_in _ k 0 _) cs_X12_378 eX12_step_23 ⟨Nat.le_of_ble_eq_true rfl, Nat.le_of_ble_eq_true rfl⟩ rfl rfl (Nat.le_of_ble_eq_true rfl) (fun r s1 h => ?_)
    obtain ⟨rfl, rfl⟩ := h
    rw [es, e0]
    refine g_if_eq eX12_step_26 (fun hb2 => ?_) (fun hb2 => ?_)
    · rw [b2_eq0] at hb2
      exact bad (fun h => hb2 (by have h9 := h.1.2; rw [e] at h9; omega))
    · rw [b2_ne0] at hb2
      refine g_ild3 eX12_step_29 ?_
      refine g_iconst (v := 0) (by decide) eX12_step_30 ?_
      refine g_iconst (v := 2) (by decide) eX12_step_31 ?_
      refine g_callSi (w_in _ w 0 2) cs_X12_378 eX12_step_32 ⟨Nat.le_of_ble_eq_true rfl, Nat.le_of_ble_eq_true rfl⟩ rfl rfl (Nat.le_of_ble_eq_true rfl) (fun r s1 h => ?_)
      obtain ⟨rfl, rfl⟩ := h
      rw [e2, e0]
      refine g_if_ne eX12_step_35 (fun hb3 => ?_) (fun hb3 => ?_)
      · rw [b2_ne0] at hb3
        obtain ⟨v, hv, rfl⟩ := as_nI (x := k) (n := 40) (by omega)
        have ev : qI (nI v) = v := nI_clamp (by omega)
        have hC : (isS np (nI q) ∧ 0 ≤ (nI v).toInt ∧ (nI v).toInt < (s1.1 42 (qI (nI q))).toInt) ∧ 0 ≤ w.toInt ∧ w.toInt ≤ 2 := ⟨⟨hb, by omega, by rw [e]; omega⟩, hb3⟩
        have hci : (nI (40 * q + v)).toNatClampNeg = 40 * q + v := nI_clamp (by omega)
        refine g_bipush (v := 40) (by decide) eX12_step_41 ?_
        refine g_ild1 eX12_step_43 ?_
        refine g_imul eX12_step_44 ?_
        refine g_ild2 eX12_step_45 ?_
        refine g_iadd eX12_step_46 ?_
        rw [ix40 (by omega) hv]
        refine g_ist4 rfl (Nat.le_of_ble_eq_true rfl) eX12_step_47 ?_
        refine g_ild3 eX12_step_49 ?_
        refine g_if_ne eX12_step_50 (fun h50 => ?_) (fun h50 => ?_)
        · simp only [fa_eq, Int32.reduceToInt] at h50
          refine g_ild3 eX12_step_63 ?_
          refine g_iconst (v := 1) (by decide) eX12_step_64 ?_
          refine g_icmp_ne eX12_step_65 (fun h65 => ?_) (fun h65 => ?_)
          · simp only [fa_eq, Int32.reduceToInt] at h65
            refine g_ald0 eX12_step_78 ?_
            refine g_getR (ci := 11) (j := 27) rfl (Nat.le_of_ble_eq_true rfl) (Nat.le_of_ble_eq_true rfl) (Nat.le_of_ble_eq_true rfl) rfl rfl fl_X12_55 eX12_step_79 ?_
            refine g_ild4 eX12_step_82 ?_
            refine g_iald rfl (Nat.le_of_ble_eq_true rfl) (vp_in_nI (n := 40 * q + v) (N := 200) (by omega) (by decide)) eX12_step_84 ?_
            refine g_iret rfl eX12_step_85 ⟨_, rfl, ?_⟩
            try dsimp only
            rw [hci, if_pos hC, if_neg h50, if_neg h65, e, ev]
            exact ⟨rfl, rfl⟩
          · simp only [fa_eq, Int32.reduceToInt] at h65
            refine g_ald0 eX12_step_68 ?_
            refine g_getR (ci := 11) (j := 26) rfl (Nat.le_of_ble_eq_true rfl) (Nat.le_of_ble_eq_true rfl) (Nat.le_of_ble_eq_true rfl) rfl rfl fl_X12_52 eX12_step_69 ?_
            refine g_ild4 eX12_step_72 ?_
            refine g_iald rfl (Nat.le_of_ble_eq_true rfl) (vp_in_nI (n := 40 * q + v) (N := 200) (by omega) (by decide)) eX12_step_74 ?_
            refine g_goto eX12_step_75 ?_
            refine g_iret rfl eX12_step_85 ⟨_, rfl, ?_⟩
            try dsimp only
            rw [hci, if_pos hC, if_neg h50, if_pos h65, e, ev]
            exact ⟨rfl, rfl⟩
        · simp only [fa_eq, Int32.reduceToInt] at h50
          refine g_ald0 eX12_step_53 ?_
          refine g_getR (ci := 11) (j := 25) rfl (Nat.le_of_ble_eq_true rfl) (Nat.le_of_ble_eq_true rfl) (Nat.le_of_ble_eq_true rfl) rfl rfl fl_X12_49 eX12_step_54 ?_
          refine g_ild4 eX12_step_57 ?_
          refine g_iald rfl (Nat.le_of_ble_eq_true rfl) (vp_in_nI (n := 40 * q + v) (N := 200) (by omega) (by decide)) eX12_step_59 ?_
          refine g_goto eX12_step_60 ?_
          refine g_iret rfl eX12_step_85 ⟨_, rfl, ?_⟩
          try dsimp only
          rw [hci, if_pos hC, if_pos h50, e, ev]
          exact ⟨rfl, rfl⟩
      · rw [b2_eq0] at hb3
        exact bad (fun h => hb3 h.2)
theorem w_outs (st s1 : St) (hT : sI st 31 18 0 = s1) (np : Nat) (hn : s1.1 31 19 = nI np) (h4 : np ≤ 4) (ho : ∀ q, q < np → 0 ≤ (s1.1 40 q).toInt ∧ (s1.1 40 q).toInt ≤ 4) (x k : Int32) : Mi l D cy 1 YX12_outs [.ref 31, .int x, .int k] st (fun r u => u = s1 ∧ r = if isS np x ∧ 0 ≤ k.toInt ∧ k.toInt < (s1.1 40 (qI x)).toInt then s1.1 41 (4 * qI x + qI k) else -100) := by
  have hcn : (s1.1 31 19).toInt = np := by rw [hn, nI_toInt (by omega)]
  have e0 : (0 : Int32).toInt = 0 := rfl
  refine M.ofG [some (.ref 31), some (.int x), some (.int k)] (by decide) (Nat.le_of_ble_eq_true rfl) rfl ?_
  intro xp xe xs xm xa xb xme xc xad xA
  refine g_ald0 eX12_outs_0 ?_
  refine g_iconst (v := 0) (by decide) eX12_outs_1 ?_
  refine g_putI (ci := 11) (j := 18) rfl rfl (Nat.le_of_ble_eq_true rfl) (Nat.le_of_ble_eq_true rfl) (Nat.le_of_ble_eq_true rfl) rfl fl_X12_177 eX12_outs_2 ?_
  rw [hT]
  refine g_ald0 eX12_outs_5 ?_
  refine g_ild1 eX12_outs_6 ?_
  refine g_callVi (ci := 11) (w_isProgram _ x) rfl (Nat.le_of_ble_eq_true rfl) (Nat.le_of_ble_eq_true rfl) rfl cv_X12_461 eX12_outs_7 ⟨Nat.le_of_ble_eq_true rfl, Nat.le_of_ble_eq_true rfl⟩ rfl rfl (Nat.le_of_ble_eq_true rfl) (fun r s1 h => ?_)
  obtain ⟨rfl, rfl⟩ := h
  refine g_if_eq eX12_outs_10 (fun hb => ?_) (fun hb => ?_)
  · rw [b2_eq0, hcn] at hb
    refine g_bipush (v := (-100)) (by decide) eX12_outs_42 ?_
    exact g_iret rfl eX12_outs_44 ⟨_, rfl, ⟨rfl, by rw [if_neg (fun h => hb h.1)]⟩⟩
  · rw [b2_ne0, hcn] at hb
    obtain ⟨q, hq, rfl⟩ := as_nI hb
    have e : qI (nI q) = q := nI_clamp (by omega)
    have hc : (nI q).toNatClampNeg = q := e
    have hoq := ho q hq
    have es : (s1.1 40 q - 1).toInt = (s1.1 40 q).toInt - 1 := by rw [fb_subI] <;> rw [o32] <;> omega
    rw [e]
    refine g_ild2 eX12_outs_13 ?_
    refine g_iconst (v := 0) (by decide) eX12_outs_14 ?_
    refine g_ald0 eX12_outs_15 ?_
    refine g_getR (ci := 11) (j := 22) rfl (Nat.le_of_ble_eq_true rfl) (Nat.le_of_ble_eq_true rfl) (Nat.le_of_ble_eq_true rfl) rfl rfl fl_X12_40 eX12_outs_16 ?_
    refine g_ild1 eX12_outs_19 ?_
    refine g_iald rfl (Nat.le_of_ble_eq_true rfl) (vp_in_nI (n := q) (N := 5) (by omega) (by decide)) eX12_outs_20 ?_
    refine g_iconst (v := 1) (by decide) eX12_outs_21 ?_
    refine g_isub eX12_outs_22 ?_
    rw [hc]
    refine g_callSi (w_in _ k 0 _) cs_X12_378 eX12_outs_23 ⟨Nat.le_of_ble_eq_true rfl, Nat.le_of_ble_eq_true rfl⟩ rfl rfl (Nat.le_of_ble_eq_true rfl) (fun r s1 h => ?_)
    obtain ⟨rfl, rfl⟩ := h
    rw [es, e0]
    refine g_if_eq eX12_outs_26 (fun hb2 => ?_) (fun hb2 => ?_)
    · rw [b2_eq0] at hb2
      refine g_bipush (v := (-100)) (by decide) eX12_outs_42 ?_
      exact g_iret rfl eX12_outs_44 ⟨_, rfl, ⟨rfl, by rw [if_neg (fun h => hb2 (by have h9 := h.2; omega))]⟩⟩
    · rw [b2_ne0] at hb2
      obtain ⟨v, hv, rfl⟩ := as_nI (x := k) (n := 4) (by omega)
      have ev : qI (nI v) = v := nI_clamp (by omega)
      refine g_ald0 eX12_outs_29 ?_
      refine g_getR (ci := 11) (j := 23) rfl (Nat.le_of_ble_eq_true rfl) (Nat.le_of_ble_eq_true rfl) (Nat.le_of_ble_eq_true rfl) rfl rfl fl_X12_43 eX12_outs_30 ?_
      refine g_iconst (v := 4) (by decide) eX12_outs_33 ?_
      refine g_ild1 eX12_outs_34 ?_
      refine g_imul eX12_outs_35 ?_
      refine g_ild2 eX12_outs_36 ?_
      refine g_iadd eX12_outs_37 ?_
      rw [ix4]
      refine g_iald rfl (Nat.le_of_ble_eq_true rfl) (vp_in_nI (n := 4 * q + v) (N := 20) (by omega) (by decide)) eX12_outs_38 ?_
      refine g_goto eX12_outs_39 ?_
      refine g_iret rfl eX12_outs_44 ⟨_, rfl, ?_⟩
      try dsimp only
      rw [nI_clamp (by omega), if_pos ⟨hb, by omega, by omega⟩, ev]
      exact ⟨rfl, rfl⟩
/-- what is laid, summed up -/
def laySum (lay : Int) : Nat → Int := fb_si (fun k => if laidF lay k then 25 else 0)
theorem laySum_pop (x : Nat) (W : Nat) (h : (x : Int) < layN W) : laySum x W = 25 * (popN x : Int) := by
  have hx : x < 4096 := by have := layN_le (W : Int); omega
  have hbit : ∀ k : Nat, k < 12 → (if laidF (x : Int) k then (25 : Int) else 0) = 25 * (((x / 2 ^ k % 2 : Nat)) : Int) := by
    intro k hk
    have e : (x : Int) / 2 ^ k % 2 = ((x / 2 ^ k % 2 : Nat) : Int) := by norm_cast
    have h01 : x / 2 ^ k % 2 = 0 ∨ x / 2 ^ k % 2 = 1 := by omega
    unfold laidF
    rw [e]
    rcases h01 with h1 | h1
    · rw [h1, if_neg (fun q => by have := q.2; omega)]; rfl
    · rw [h1, if_pos ⟨hk, rfl⟩]; rfl
  have hbig : ∀ k : Nat, 12 ≤ k → (if laidF (x : Int) k then (25 : Int) else 0) = 0 := fun k hk => if_neg (fun q => by have := q.1; omega)
  have hz : ∀ k : Nat, min W 12 ≤ k → k < 12 → x / 2 ^ k % 2 = 0 := by
    intro k h1 h2
    have h3 : x < 2 ^ k := by
      have h4 : (x : Int) < ((2 ^ (min W 12) : Nat) : Int) := by
        have : layN (W : Int) = ((2 ^ (min W 12) : Nat) : Int) := by
          unfold layN
          rw [show (min (W : Int) 12).toNat = min W 12 by omega]
          norm_cast
        rw [← this]
        exact h
      have h5 : 2 ^ (min W 12) ≤ 2 ^ k := Nat.pow_le_pow_right (by decide) h1
      omega
    rw [Nat.div_eq_of_lt h3]
  have key : ∀ n : Nat, min W 12 ≤ n → n ≤ 12 → fb_si (fun k => 25 * (((x / 2 ^ k % 2 : Nat)) : Int)) n = fb_si (fun k => 25 * (((x / 2 ^ k % 2 : Nat)) : Int)) (min W 12) := by
    intro n
    induction n with
    | zero => intro h1 _; rw [show min W 12 = 0 by omega]
    | succ n ih =>
      intro h1 h2
      by_cases h3 : min W 12 = n + 1
      · rw [h3]
      · rw [fb_si_succ, ih (by omega) (by omega), hz n (by omega) (by omega)]
        simp
  have all : ∀ n : Nat, laySum x n = fb_si (fun k => 25 * (((x / 2 ^ k % 2 : Nat)) : Int)) (min n 12) := by
    intro n
    induction n with
    | zero => rfl
    | succ n ih =>
      unfold laySum at ih ⊢
      rw [fb_si_succ, ih]
      by_cases hn : n < 12
      · rw [hbit n hn, show min (n + 1) 12 = n + 1 by omega, show min n 12 = n by omega, fb_si_succ]
      · rw [hbig n (by omega), show min (n + 1) 12 = 12 by omega, show min n 12 = 12 by omega]
        omega
  rw [all W, ← key 12 (by omega) (by omega)]
  simp only [fb_si, popN]
  simp
  omega
set_option maxHeartbeats 4000000 in
theorem w_costOf (st : St) {t : Int} (q : Nat) (hq : q < 4) {K A B U : Nat → Int} {W I O : Nat} (hp : mPg t st q K A B U W I O) (x : Nat) (hx : (x : Int) < layN W) : Mi l D cy 0 YX12_costOf [.ref 31, .int (nI q), .int (nI x)] st (fun r u => u = st ∧ r.toInt = costF K W x) := by
  obtain ⟨p1, p2, p3, p4, p5, p6, p7, p8, p9, -⟩ := hp
  have hc : (nI q).toNatClampNeg = q := nI_clamp (by omega)
  have hx2 : x < 4096 := by have := layN_le (W : Int); omega
  have htx : (nI x).toInt = x := nI_toInt (by omega)
  refine M.ofG [some (.ref 31), some (.int (nI q)), some (.int (nI x)), none, none, none] (by decide) (Nat.le_of_ble_eq_true rfl) rfl ?_
  intro xp xe xs xm xa xb xme xc xad xA
  have hls : ∀ n : Nat, n ≤ 40 → 0 ≤ laySum x n ∧ laySum x n ≤ 25 * (n : Int) := by
    intro n
    induction n with
    | zero => intro _; exact ⟨Int.le_refl 0, Int.le_refl 0⟩
    | succ n ih =>
      intro hn
      have := ih (by omega)
      unfold laySum at this ⊢
      rw [fb_si_succ]
      split <;> omega
  have loop : ∀ (f k : Nat) (a : Int32) (y : Option Value), k + f = W → a.toInt = laySum x k + fb_si (fun w => prF (K w)) k → G xp l xe (rmd (0)) xs xm xa xb xme xc D cy xad xA (YX12_costOf.2.1, YX12_costOf.1.cls, YX12_costOf.2.2.1, YX12_costOf.2.2.2) (Pi (fun (r : Int32) (u : St) => u = st ∧ r.toInt = costF K W x)) 5 ([some (.ref 31), some (.int (nI q)), some (.int (nI x)), some (.int a), some (.int (nI k)), y]) ([]) (st) := by
    intro f
    induction f with
    | zero =>
      intro k a y hk ha
      refine g_ild4 eX12_costOf_5 ?_
      refine g_ald0 eX12_costOf_7 ?_
      refine g_getR (ci := 11) (j := 24) rfl (Nat.le_of_ble_eq_true rfl) (Nat.le_of_ble_eq_true rfl) (Nat.le_of_ble_eq_true rfl) rfl rfl fl_X12_46 eX12_costOf_8 ?_
      refine g_ild1 eX12_costOf_11 ?_
      refine g_iald rfl (Nat.le_of_ble_eq_true rfl) (vp_in_nI (n := q) (N := 5) (by omega) (by decide)) eX12_costOf_12 ?_
      rw [hc, p1]
      refine g_icmp_ge eX12_costOf_13 (fun hb => ?_) (fun hb => ?_)
      · refine g_ild3 eX12_costOf_81 ?_
        refine g_iret rfl eX12_costOf_82 ⟨_, rfl, ?_⟩
        try dsimp only
        refine ⟨rfl, ?_⟩
        have e : k = W := by omega
        subst e
        rw [ha, laySum_pop x k hx]
        rfl
      · exact absurd (nI_le (by omega) (by omega)) hb
    | succ f ih =>
      intro k a y hk ha
      have hkk := p7 k (by omega)
      have hs := si_rng K k
      have hl := hls k (by omega)
      have hpr := prF_rng (K k)
      refine g_ild4 eX12_costOf_5 ?_
      refine g_ald0 eX12_costOf_7 ?_
      refine g_getR (ci := 11) (j := 24) rfl (Nat.le_of_ble_eq_true rfl) (Nat.le_of_ble_eq_true rfl) (Nat.le_of_ble_eq_true rfl) rfl rfl fl_X12_46 eX12_costOf_8 ?_
      refine g_ild1 eX12_costOf_11 ?_
      refine g_iald rfl (Nat.le_of_ble_eq_true rfl) (vp_in_nI (n := q) (N := 5) (by omega) (by decide)) eX12_costOf_12 ?_
      rw [hc, p1]
      refine g_icmp_ge eX12_costOf_13 (fun hb => ?_) (fun hb => ?_)
      · exact absurd hb (nI_ge (by omega) (by omega))
      · have tail : ∀ z : Int32, z.toInt = prF (K k) → ∀ y : Option Value, G xp l xe (rmd (0)) xs xm xa xb xme xc D cy xad xA (YX12_costOf.2.1, YX12_costOf.1.cls, YX12_costOf.2.2.1, YX12_costOf.2.2.2) (Pi (fun (r : Int32) (u : St) => u = st ∧ r.toInt = costF K W x)) 53 ([some (.ref 31), some (.int (nI q)), some (.int (nI x)), some (.int a), some (.int (nI k)), y]) ([.int z, .int a]) (st) := by
          intro z hz y
          have ea : (a + z).toInt = laySum x k + fb_si (fun w => prF (K w)) (k + 1) := by
            rw [fb_si_succ, fb_addI] <;> rw [ha, hz] <;> omega
          have hs1 := si_rng K (k + 1)
          have e25 : (Int32.ofInt 25).toInt = 25 := rfl
          refine g_iadd eX12_costOf_53 ?_
          refine g_ist3 rfl (Nat.le_of_ble_eq_true rfl) eX12_costOf_54 ?_
          refine g_ild4 eX12_costOf_55 ?_
          refine g_bipush (v := 12) (by decide) eX12_costOf_57 ?_
          refine g_icmp_ge eX12_costOf_59 (fun h59 => ?_) (fun h59 => ?_)
          · simp only [fa_le, Int32.reduceToInt] at h59
            rw [nI_toInt (by omega)] at h59
            refine g_inc4 rfl (Nat.le_of_ble_eq_true rfl) rfl eX12_costOf_75 ?_
            refine g_goto eX12_costOf_78 ?_
            rw [inc1]
            refine ih (k + 1) _ _ (by omega) ?_
            have e9 : laySum x (k + 1) = laySum x k := by
              unfold laySum
              rw [fb_si_succ, if_neg (fun h => by have := h.1; omega)]
              omega
            rw [ea, e9]
          · simp only [fa_le, Int32.reduceToInt] at h59
            rw [nI_toInt (by omega)] at h59
            have e1 := shr_pow (nI x) (m0 := k) (by omega)
            rw [htx] at e1
            have h0 : 0 ≤ (nI x >>> (nI k &&& 31)).toInt := by rw [e1]; exact Int.ediv_nonneg (by omega) (Int.le_of_lt (Int.pow_pos (by decide)))
            have e2 := bit0 _ h0
            rw [e1] at e2
            refine g_ild2 eX12_costOf_62 ?_
            refine g_ild4 eX12_costOf_63 ?_
            refine g_ishr eX12_costOf_65 ?_
            refine g_iconst (v := 1) (by decide) eX12_costOf_66 ?_
            refine g_iand eX12_costOf_67 ?_
            refine g_iconst (v := 1) (by decide) eX12_costOf_68 ?_
            refine g_icmp_ne eX12_costOf_69 (fun h69 => ?_) (fun h69 => ?_)
            · rw [fa_eq, e2, o32] at h69
              refine g_inc4 rfl (Nat.le_of_ble_eq_true rfl) rfl eX12_costOf_75 ?_
              refine g_goto eX12_costOf_78 ?_
              rw [inc1]
              refine ih (k + 1) _ _ (by omega) ?_
              have e9 : laySum x (k + 1) = laySum x k := by
                unfold laySum
                rw [fb_si_succ, if_neg (fun h => h69 h.2)]
                omega
              rw [ea, e9]
            · rw [fa_eq, e2, o32] at h69
              refine g_inc3 rfl (Nat.le_of_ble_eq_true rfl) rfl eX12_costOf_72 ?_
              refine g_inc4 rfl (Nat.le_of_ble_eq_true rfl) rfl eX12_costOf_75 ?_
              refine g_goto eX12_costOf_78 ?_
              rw [inc1]
              refine ih (k + 1) _ _ (by omega) ?_
              have e9 : laySum x (k + 1) = laySum x k + 25 := by
                unfold laySum
                rw [fb_si_succ, if_pos ⟨by omega, h69⟩]
              rw [e9, fb_addI] <;> rw [ea, e25] <;> omega
        refine g_ald0 eX12_costOf_16 ?_
        refine g_getR (ci := 11) (j := 25) rfl (Nat.le_of_ble_eq_true rfl) (Nat.le_of_ble_eq_true rfl) (Nat.le_of_ble_eq_true rfl) rfl rfl fl_X12_49 eX12_costOf_17 ?_
        refine g_bipush (v := 40) (by decide) eX12_costOf_20 ?_
        refine g_ild1 eX12_costOf_22 ?_
        refine g_imul eX12_costOf_23 ?_
        refine g_ild4 eX12_costOf_24 ?_
        refine g_iadd eX12_costOf_26 ?_
        rw [ix40 hq (by omega)]
        refine g_iald rfl (Nat.le_of_ble_eq_true rfl) (vp_in_nI (n := 40 * q + k) (N := 200) (by omega) (by decide)) eX12_costOf_27 ?_
        refine g_ist5 rfl (Nat.le_of_ble_eq_true rfl) eX12_costOf_28 ?_
        refine g_ild3 eX12_costOf_30 ?_
        refine g_ild5 eX12_costOf_31 ?_
        refine g_iconst (v := 3) (by decide) eX12_costOf_33 ?_
        rw [nI_clamp (by omega)]
        refine g_icmp_ne eX12_costOf_34 (fun h34 => ?_) (fun h34 => ?_)
        · simp only [fa_eq, Int32.reduceToInt] at h34
          rw [hkk.1] at h34
          refine g_ild5 eX12_costOf_42 ?_
          refine g_iconst (v := 5) (by decide) eX12_costOf_44 ?_
          refine g_icmp_ne eX12_costOf_45 (fun h45 => ?_) (fun h45 => ?_)
          · simp only [fa_eq, Int32.reduceToInt] at h45
            rw [hkk.1] at h45
            refine g_iconst (v := 1) (by decide) eX12_costOf_52 ?_
            exact tail 1 (by unfold prF; rw [if_neg h34, if_neg h45]; rfl) _
          · simp only [fa_eq, Int32.reduceToInt] at h45
            rw [hkk.1] at h45
            refine g_iconst (v := 2) (by decide) eX12_costOf_48 ?_
            refine g_goto eX12_costOf_49 ?_
            exact tail 2 (by unfold prF; rw [if_neg h34, if_pos h45]; rfl) _
        · simp only [fa_eq, Int32.reduceToInt] at h34
          rw [hkk.1] at h34
          refine g_bipush (v := 10) (by decide) eX12_costOf_37 ?_
          refine g_goto eX12_costOf_39 ?_
          exact tail 10 (by unfold prF; rw [if_pos h34]; rfl) _
  refine g_iconst (v := 0) (by decide) eX12_costOf_0 ?_
  refine g_ist3 rfl (Nat.le_of_ble_eq_true rfl) eX12_costOf_1 ?_
  refine g_iconst (v := 0) (by decide) eX12_costOf_2 ?_
  refine g_ist4 rfl (Nat.le_of_ble_eq_true rfl) eX12_costOf_3 ?_
  exact loop W 0 0 none (by omega) rfl
end MODF
