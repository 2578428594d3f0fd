/-! SealedSumsModel: holds, best -/
section MODH
variable {l : Launch} {D : va_G} {cy : Nat → ClassId}
theorem w_holds (st s1 : St) (hT : sI st 31 18 0 = s1) {nk n : Nat} (hx : mOK s1 nk n) (np : Nat) (hn : s1.1 31 19 = nI np) (h4 : np ≤ 4) {K A B U : Nat → Nat → Int} {W I O : Nat → Nat} (hp : ∀ q, q < np → mPg (s1.1 31 17).toInt s1 q (K q) (A q) (B q) (U q) (W q) (I q) (O q)) (x y k : Int32) : Mi l D cy 4 YX12_holds [.ref 31, .int x, .int y, .int k] st (fun r u => if (isS np x ∧ 0 ≤ k.toInt ∧ k.toInt < layN (W (qI x))) ∧ isS nk y then (∃ g c d, u = hS s1 g c d) ∧ r = b2 (stays (K (qI x)) (A (qI x)) (B (qI x)) (I (qI x)) (W (qI x)) (fBm s1 (qI y)) (mP s1 (qI y)) k.toInt) else r = -1 ∧ u = s1) := by
  have hcn : (s1.1 31 19).toInt = np := by rw [hn, nI_toInt (by omega)]
  obtain ⟨x1, x2, x3, x4, x5, x6, -⟩ := hx
  have hcK : (s1.1 31 53).toInt = nk := by rw [x1, nI_toInt (by omega)]
  refine M.ofG [some (.ref 31), some (.int x), some (.int y), some (.int k)] (by decide) (Nat.le_of_ble_eq_true rfl) rfl ?_
  intro xp xe xs xm xa xb xme xc xad xA
  have bad : ¬ ((isS np x ∧ 0 ≤ k.toInt ∧ k.toInt < layN (W (qI x))) ∧ isS nk y) → G xp l xe (rmd (4)) xs xm xa xb xme xc D cy xad xA (YX12_holds.2.1, YX12_holds.1.cls, YX12_holds.2.2.1, YX12_holds.2.2.2) (Pi (fun (r : Int32) (u : St) => if (isS np x ∧ 0 ≤ k.toInt ∧ k.toInt < layN (W (qI x))) ∧ isS nk y then (∃ g c d, u = hS s1 g c d) ∧ r = b2 (stays (K (qI x)) (A (qI x)) (B (qI x)) (I (qI x)) (W (qI x)) (fBm s1 (qI y)) (mP s1 (qI y)) k.toInt) else r = -1 ∧ u = s1)) 30 ([some (.ref 31), some (.int x), some (.int y), some (.int k)]) ([]) (s1) := by
    intro hb
    refine g_iconst (v := (-1)) (by decide) eX12_holds_30 ?_
    refine g_goto eX12_holds_31 ?_
    refine g_iret rfl eX12_holds_49 ⟨_, rfl, ?_⟩
    try dsimp only
    rw [if_neg hb]
    exact ⟨rfl, rfl⟩
  refine g_ald0 eX12_holds_0 ?_
  refine g_iconst (v := 0) (by decide) eX12_holds_1 ?_
  refine g_putI (ci := 11) (j := 18) rfl rfl (Nat.le_of_ble_eq_true rfl) (Nat.le_of_ble_eq_true rfl) (Nat.le_of_ble_eq_true rfl) rfl fl_X12_177 eX12_holds_2 ?_
  rw [hT]
  refine g_ald0 eX12_holds_5 ?_
  refine g_ild1 eX12_holds_6 ?_
  refine g_callVi (ci := 11) (w_isProgram _ x) rfl (Nat.le_of_ble_eq_true rfl) (Nat.le_of_ble_eq_true rfl) rfl cv_X12_461 eX12_holds_7 ⟨Nat.le_of_ble_eq_true rfl, Nat.le_of_ble_eq_true rfl⟩ rfl rfl (Nat.le_of_ble_eq_true rfl) (fun r s1 h => ?_)
  obtain ⟨rfl, rfl⟩ := h
  refine g_if_eq eX12_holds_10 (fun hb => ?_) (fun hb => ?_)
  · rw [b2_eq0, hcn] at hb
    exact bad (fun h => hb h.1.1)
  · rw [b2_ne0, hcn] at hb
    refine g_ald0 eX12_holds_13 ?_
    refine g_ild2 eX12_holds_14 ?_
    refine g_callVi (ci := 11) (w_isKey _ y) rfl (Nat.le_of_ble_eq_true rfl) (Nat.le_of_ble_eq_true rfl) rfl cv_X12_388 eX12_holds_15 ⟨Nat.le_of_ble_eq_true rfl, Nat.le_of_ble_eq_true rfl⟩ rfl rfl (Nat.le_of_ble_eq_true rfl) (fun r s1 h => ?_)
    obtain ⟨rfl, rfl⟩ := h
    refine g_if_eq eX12_holds_18 (fun hb2 => ?_) (fun hb2 => ?_)
    · rw [b2_eq0, hcK] at hb2
      exact bad (fun h => hb2 h.2)
    · rw [b2_ne0, hcK] at hb2
      obtain ⟨q, hq, rfl⟩ := as_nI hb
      obtain ⟨i, hi, rfl⟩ := as_nI hb2
      have e : qI (nI q) = q := nI_clamp (by omega)
      have ei : qI (nI i) = i := nI_clamp (by omega)
      have hpq := hp q hq
      refine g_ald0 eX12_holds_21 ?_
      refine g_ild1 eX12_holds_22 ?_
      refine g_ild3 eX12_holds_23 ?_
      refine g_callVi (ci := 11) (w_isLaying _ q (by omega) _ hpq.1 hpq.2.2.2.1 k) rfl (Nat.le_of_ble_eq_true rfl) (Nat.le_of_ble_eq_true rfl) rfl cv_X12_464 eX12_holds_24 ⟨Nat.le_of_ble_eq_true rfl, Nat.le_of_ble_eq_true rfl⟩ rfl rfl (Nat.le_of_ble_eq_true rfl) (fun r s1 h => ?_)
      obtain ⟨rfl, rfl⟩ := h
      refine g_if_ne eX12_holds_27 (fun hb3 => ?_) (fun hb3 => ?_)
      · rw [b2_ne0] at hb3
        have hl2 := layN_le (W q)
        obtain ⟨v, hv, rfl⟩ := as_nI (x := k) (n := 4096) (by omega)
        have ev : (nI v).toInt = v := nI_toInt (by omega)
        refine g_ald0 eX12_holds_34 ?_
        refine g_ild1 eX12_holds_35 ?_
        refine g_ild2 eX12_holds_36 ?_
        refine g_ild3 eX12_holds_37 ?_
        refine g_callVi (ci := 11) (w_holdsOut _ q (by omega) hpq x5 rfl i (by omega) (x6 i hi) v (by omega)) rfl (Nat.le_of_ble_eq_true rfl) (Nat.le_of_ble_eq_true rfl) rfl cv_X12_471 eX12_holds_38 ⟨Nat.le_of_ble_eq_true rfl, Nat.le_of_ble_eq_true rfl⟩ rfl rfl (Nat.le_of_ble_eq_true rfl) (fun r u2 h => ?_)
        obtain ⟨h, rfl⟩ := h
        have hC : (isS np (nI q) ∧ 0 ≤ (nI v).toInt ∧ (nI v).toInt < layN (W (qI (nI q)))) ∧ isS nk (nI i) := ⟨⟨hb, by rw [e]; exact hb3⟩, hb2⟩
        refine g_if_eq eX12_holds_41 (fun h41 => ?_) (fun h41 => ?_)
        · rw [b2_eq0] at h41
          refine g_iconst (v := 0) (by decide) eX12_holds_48 ?_
          refine g_iret rfl eX12_holds_49 ⟨_, rfl, ?_⟩
          try dsimp only
          rw [if_pos hC, e, ei, ev]
          exact ⟨h, b2_f h41⟩
        · rw [b2_ne0] at h41
          refine g_iconst (v := 1) (by decide) eX12_holds_44 ?_
          refine g_goto eX12_holds_45 ?_
          refine g_iret rfl eX12_holds_49 ⟨_, rfl, ?_⟩
          try dsimp only
          rw [if_pos hC, e, ei, ev]
          exact ⟨h, b2_t h41⟩
      · rw [b2_eq0] at hb3
        exact bad (fun h => hb3 (by have := h.1.2; rw [e] at this; exact this))
theorem bestG_2 (S : Nat → Bool) : ∀ n, ((bestG S n).1 = -2 ∧ (bestG S n).2 = 13) ∨ (0 ≤ (bestG S n).1 ∧ (bestG S n).2 ≤ 12)
  | 0 => Or.inl ⟨rfl, rfl⟩
  | n + 1 => by
    by_cases h : popN n < (bestG S n).2 ∧ S n = true
    · have e : bestG S (n + 1) = ((n : Int), popN n) := if_pos h
      rw [e]
      exact Or.inr ⟨by show 0 ≤ (n : Int); omega, pop_le n⟩
    · have e : bestG S (n + 1) = bestG S n := if_neg h
      rw [e]
      exact bestG_2 S n
def stM (st : St) (i : Nat) (K A B : Nat → Int) (I W : Nat) : Nat → Bool := fun n => decide (stays K A B I W (fBm st i) (mP st i) n)
set_option maxHeartbeats 1000000 in
theorem w_best (st s1 : St) (hT : sI st 31 18 0 = s1) {nk n : Nat} (hx : mOK s1 nk n) (np : Nat) (hn : s1.1 31 19 = nI np) (h4 : np ≤ 4) {K A B U : Nat → Nat → Int} {W I O : Nat → Nat} (hp : ∀ q, q < np → mPg (s1.1 31 17).toInt s1 q (K q) (A q) (B q) (U q) (W q) (I q) (O q)) (x y : Int32) : Mi l D cy 4 YX12_best [.ref 31, .int x, .int y] st (fun r u => if isS np x ∧ isS nk y ∧ W (qI x) ≤ 12 then (∃ g c d, u = hS s1 g c d) ∧ r.toInt = (bestG (stM s1 (qI y) (K (qI x)) (A (qI x)) (B (qI x)) (I (qI x)) (W (qI x))) (layN (W (qI x))).toNat).1 else r = -1 ∧ u = s1) := by
  have hcn : (s1.1 31 19).toInt = np := by rw [hn, nI_toInt (by omega)]
  obtain ⟨x1, x2, x3, x4, x5, x6, -⟩ := hx
  have hcK : (s1.1 31 53).toInt = nk := by rw [x1, nI_toInt (by omega)]
  refine M.ofG [some (.ref 31), some (.int x), some (.int y), none, none, none, none] (by decide) (Nat.le_of_ble_eq_true rfl) rfl ?_
  intro xp xe xs xm xa xb xme xc xad xA
  have bad : ¬ (isS np x ∧ isS nk y ∧ W (qI x) ≤ 12) → G xp l xe (rmd (4)) xs xm xa xb xme xc D cy xad xA (YX12_best.2.1, YX12_best.1.cls, YX12_best.2.2.1, YX12_best.2.2.2) (Pi (fun (r : Int32) (u : St) => if isS np x ∧ isS nk y ∧ W (qI x) ≤ 12 then (∃ g c d, u = hS s1 g c d) ∧ r.toInt = (bestG (stM s1 (qI y) (K (qI x)) (A (qI x)) (B (qI x)) (I (qI x)) (W (qI x))) (layN (W (qI x))).toNat).1 else r = -1 ∧ u = s1)) 32 ([some (.ref 31), some (.int x), some (.int y), none, none, none, none]) ([]) (s1) := by
    intro hb
    refine g_iconst (v := (-1)) (by decide) eX12_best_32 ?_
    refine g_iret rfl eX12_best_33 ⟨_, rfl, ?_⟩
    try dsimp only
    rw [if_neg hb]
    exact ⟨rfl, rfl⟩
  refine g_ald0 eX12_best_0 ?_
  refine g_iconst (v := 0) (by decide) eX12_best_1 ?_
  refine g_putI (ci := 11) (j := 18) rfl rfl (Nat.le_of_ble_eq_true rfl) (Nat.le_of_ble_eq_true rfl) (Nat.le_of_ble_eq_true rfl) rfl fl_X12_177 eX12_best_2 ?_
  rw [hT]
  refine g_ald0 eX12_best_5 ?_
  refine g_ild1 eX12_best_6 ?_
  refine g_callVi (ci := 11) (w_isProgram _ x) rfl (Nat.le_of_ble_eq_true rfl) (Nat.le_of_ble_eq_true rfl) rfl cv_X12_461 eX12_best_7 ⟨Nat.le_of_ble_eq_true rfl, Nat.le_of_ble_eq_true rfl⟩ rfl rfl (Nat.le_of_ble_eq_true rfl) (fun r s1 h => ?_)
  obtain ⟨rfl, rfl⟩ := h
  refine g_if_eq eX12_best_10 (fun hb => ?_) (fun hb => ?_)
  · rw [b2_eq0, hcn] at hb
    exact bad (fun h => hb h.1)
  · rw [b2_ne0, hcn] at hb
    refine g_ald0 eX12_best_13 ?_
    refine g_ild2 eX12_best_14 ?_
    refine g_callVi (ci := 11) (w_isKey _ y) rfl (Nat.le_of_ble_eq_true rfl) (Nat.le_of_ble_eq_true rfl) rfl cv_X12_388 eX12_best_15 ⟨Nat.le_of_ble_eq_true rfl, Nat.le_of_ble_eq_true rfl⟩ rfl rfl (Nat.le_of_ble_eq_true rfl) (fun r s1 h => ?_)
    obtain ⟨rfl, rfl⟩ := h
    refine g_if_eq eX12_best_18 (fun hb2 => ?_) (fun hb2 => ?_)
    · rw [b2_eq0, hcK] at hb2
      exact bad (fun h => hb2 h.2.1)
    · rw [b2_ne0, hcK] at hb2
      obtain ⟨q, hq, rfl⟩ := as_nI hb
      obtain ⟨i, hi, rfl⟩ := as_nI hb2
      have e : qI (nI q) = q := nI_clamp (by omega)
      have hc : (nI q).toNatClampNeg = q := e
      have ei : qI (nI i) = i := nI_clamp (by omega)
      have hpq := hp q hq
      have hW := hpq.1
      have h40 := hpq.2.2.2.1
      refine g_ald0 eX12_best_21 ?_
      refine g_getR (ci := 11) (j := 24) rfl (Nat.le_of_ble_eq_true rfl) (Nat.le_of_ble_eq_true rfl) (Nat.le_of_ble_eq_true rfl) rfl rfl fl_X12_46 eX12_best_22 ?_
      refine g_ild1 eX12_best_25 ?_
      refine g_iald rfl (Nat.le_of_ble_eq_true rfl) (vp_in_nI (n := q) (N := 5) (by omega) (by decide)) eX12_best_26 ?_
      refine g_bipush (v := 12) (by decide) eX12_best_27 ?_
      rw [hc, hW]
      refine g_icmp_le eX12_best_29 (fun hb3 => ?_) (fun hb3 => ?_)
      · simp only [fa_le, Int32.reduceToInt] at hb3
        rw [nI_toInt (by omega)] at hb3
        have hl1 := layN_pos (W q)
        have hl2 := layN_le (W q)
        have es := shl_pow (m0 := W q) (by omega)
        have elN : layN (W q) = 2 ^ W q := by
          unfold layN
          rw [show (min (W q : Int) 12).toNat = W q by omega]
        rw [← elN] at es
        have hC : isS np (nI q) ∧ isS nk (nI i) ∧ W (qI (nI q)) ≤ 12 := ⟨hb, hb2, by rw [e]; omega⟩
        have hbr := bestG_rng (stM s1 i (K q) (A q) (B q) (I q) (W q))
        have hb22 := bestG_2 (stM s1 i (K q) (A q) (B q) (I q) (W q))
        have hsi := si_rng (K q) (W q)
        have loop : ∀ (f v : Nat) (g : Nat → Int64) (c d : Int64) (a b : Int32) (y6 : Option Value), v + f = (layN (W q)).toNat → a.toInt = (bestG (stM s1 i (K q) (A q) (B q) (I q) (W q)) v).1 → (a.toInt ≠ -2 → b.toInt = 25 * ((bestG (stM s1 i (K q) (A q) (B q) (I q) (W q)) v).2 : Int) + fb_si (fun w => prF (K q w)) (W q)) → G xp l xe (rmd (4)) xs xm xa xb xme xc D cy xad xA (YX12_best.2.1, YX12_best.1.cls, YX12_best.2.2.1, YX12_best.2.2.2) (Pi (fun (r : Int32) (u : St) => if isS np (nI q) ∧ isS nk (nI i) ∧ W (qI (nI q)) ≤ 12 then (∃ g c d, u = hS s1 g c d) ∧ r.toInt = (bestG (stM s1 (qI (nI i)) (K (qI (nI q))) (A (qI (nI q))) (B (qI (nI q))) (I (qI (nI q))) (W (qI (nI q)))) (layN (W (qI (nI q)))).toNat).1 else r = -1 ∧ u = s1)) 43 ([some (.ref 31), some (.int (nI q)), some (.int (nI i)), some (.int a), some (.int b), some (.int (nI v)), y6]) ([]) (hS s1 g c d) := by
          intro f
          induction f with
          | zero =>
            intro v g c d a b y6 hv ha hb9
            refine g_ild5 eX12_best_43 ?_
            refine g_iconst (v := 1) (by decide) eX12_best_45 ?_
            refine g_ald0 eX12_best_46 ?_
            refine g_getR (ci := 11) (j := 24) rfl (Nat.le_of_ble_eq_true rfl) (Nat.le_of_ble_eq_true rfl) (Nat.le_of_ble_eq_true rfl) rfl rfl fl_X12_46 eX12_best_47 ?_
            refine g_ild1 eX12_best_50 ?_
            refine g_iald rfl (Nat.le_of_ble_eq_true rfl) (vp_in_nI (n := q) (N := 5) (by omega) (by decide)) eX12_best_51 ?_
            rw [hc, hS_1, hW]
            refine g_ishl eX12_best_52 ?_
            refine g_icmp_ge eX12_best_53 (fun h53 => ?_) (fun h53 => ?_)
            · refine g_ild3 eX12_best_105 ?_
              refine g_iret rfl eX12_best_106 ⟨_, rfl, ?_⟩
              try dsimp only
              rw [if_pos hC, e, ei]
              refine ⟨⟨g, c, d, rfl⟩, ?_⟩
              rw [show (layN (W q)).toNat = v by omega]
              exact ha
            · rw [fa_le, nI_toInt (by omega), es] at h53
              exfalso
              omega
          | succ f ih =>
            intro v g c d a b y6 hv ha hb9
            have hvr := hbr v (by omega)
            have hv2 := hb22 v
            have hpop := pop_le v
            refine g_ild5 eX12_best_43 ?_
            refine g_iconst (v := 1) (by decide) eX12_best_45 ?_
            refine g_ald0 eX12_best_46 ?_
            refine g_getR (ci := 11) (j := 24) rfl (Nat.le_of_ble_eq_true rfl) (Nat.le_of_ble_eq_true rfl) (Nat.le_of_ble_eq_true rfl) rfl rfl fl_X12_46 eX12_best_47 ?_
            refine g_ild1 eX12_best_50 ?_
            refine g_iald rfl (Nat.le_of_ble_eq_true rfl) (vp_in_nI (n := q) (N := 5) (by omega) (by decide)) eX12_best_51 ?_
            rw [hc, hS_1, hW]
            refine g_ishl eX12_best_52 ?_
            refine g_icmp_ge eX12_best_53 (fun h53 => ?_) (fun h53 => ?_)
            · rw [fa_le, nI_toInt (by omega), es] at h53
              exfalso
              omega
            · refine g_ald0 eX12_best_56 ?_
              refine g_ild1 eX12_best_57 ?_
              refine g_ild5 eX12_best_58 ?_
              refine g_callVi (ci := 11) (w_costOf (hS s1 g c d) q (by omega) hpq v (by omega)) rfl (Nat.le_of_ble_eq_true rfl) (Nat.le_of_ble_eq_true rfl) rfl cv_X12_468 eX12_best_60 ⟨Nat.le_of_ble_eq_true rfl, Nat.le_of_ble_eq_true rfl⟩ rfl rfl (Nat.le_of_ble_eq_true rfl) (fun z u2 h => ?_)
              obtain ⟨rfl, hz⟩ := h
              unfold costF at hz
              have skip : ∀ g c d, bestG (stM s1 i (K q) (A q) (B q) (I q) (W q)) (v + 1) = bestG (stM s1 i (K q) (A q) (B q) (I q) (W q)) v → G xp l xe (rmd (4)) xs xm xa xb xme xc D cy xad xA (YX12_best.2.1, YX12_best.1.cls, YX12_best.2.2.1, YX12_best.2.2.2) (Pi (fun (r : Int32) (u : St) => if isS np (nI q) ∧ isS nk (nI i) ∧ W (qI (nI q)) ≤ 12 then (∃ g c d, u = hS s1 g c d) ∧ r.toInt = (bestG (stM s1 (qI (nI i)) (K (qI (nI q))) (A (qI (nI q))) (B (qI (nI q))) (I (qI (nI q))) (W (qI (nI q)))) (layN (W (qI (nI q)))).toNat).1 else r = -1 ∧ u = s1)) 99 ([some (.ref 31), some (.int (nI q)), some (.int (nI i)), some (.int a), some (.int b), some (.int (nI v)), some (.int z)]) ([]) (hS s1 g c d) := by
                intro g c d eb
                refine g_inc5 rfl (Nat.le_of_ble_eq_true rfl) rfl eX12_best_99 ?_
                refine g_goto eX12_best_102 ?_
                rw [inc1]
                exact ih (v + 1) g c d a b _ (by omega) (by rw [eb]; exact ha) (by rw [eb]; exact hb9)
              have try_ : (popN v < (bestG (stM s1 i (K q) (A q) (B q) (I q) (W q)) v).2) → G xp l xe (rmd (4)) xs xm xa xb xme xc D cy xad xA (YX12_best.2.1, YX12_best.1.cls, YX12_best.2.2.1, YX12_best.2.2.2) (Pi (fun (r : Int32) (u : St) => if isS np (nI q) ∧ isS nk (nI i) ∧ W (qI (nI q)) ≤ 12 then (∃ g c d, u = hS s1 g c d) ∧ r.toInt = (bestG (stM s1 (qI (nI i)) (K (qI (nI q))) (A (qI (nI q))) (B (qI (nI q))) (I (qI (nI q))) (W (qI (nI q)))) (layN (W (qI (nI q)))).toNat).1 else r = -1 ∧ u = s1)) 78 ([some (.ref 31), some (.int (nI q)), some (.int (nI i)), some (.int a), some (.int b), some (.int (nI v)), some (.int z)]) ([]) (hS s1 g c d) := by
                intro hlt
                refine g_ald0 eX12_best_78 ?_
                refine g_ild1 eX12_best_79 ?_
                refine g_ild2 eX12_best_80 ?_
                refine g_ild5 eX12_best_81 ?_
                refine g_callVi (ci := 11) (w_holdsOut (hS s1 g c d) q (by omega) hpq x5 rfl i (by omega) (x6 i hi) v (by omega)) rfl (Nat.le_of_ble_eq_true rfl) (Nat.le_of_ble_eq_true rfl) rfl cv_X12_471 eX12_best_83 ⟨Nat.le_of_ble_eq_true rfl, Nat.le_of_ble_eq_true rfl⟩ rfl rfl (Nat.le_of_ble_eq_true rfl) (fun r u2 h => ?_)
                obtain ⟨⟨g2, c2, d2, rfl⟩, rfl⟩ := h
                rw [hS_hS]
                refine g_if_ne eX12_best_86 (fun h86 => ?_) (fun h86 => ?_)
                · rw [b2_ne0] at h86
                  have eb : bestG (stM s1 i (K q) (A q) (B q) (I q) (W q)) (v + 1) = ((v : Int), popN v) := if_pos ⟨hlt, decide_eq_true h86⟩
                  refine g_ild5 eX12_best_92 ?_
                  refine g_ist3 rfl (Nat.le_of_ble_eq_true rfl) eX12_best_94 ?_
                  refine g_ild6 eX12_best_95 ?_
                  refine g_ist4 rfl (Nat.le_of_ble_eq_true rfl) eX12_best_97 ?_
                  refine g_inc5 rfl (Nat.le_of_ble_eq_true rfl) rfl eX12_best_99 ?_
                  refine g_goto eX12_best_102 ?_
                  rw [inc1]
                  exact ih (v + 1) g2 c2 d2 _ _ _ (by omega) (by rw [eb, nI_toInt (by omega)]) (by intro _; rw [eb]; exact hz)
                · rw [b2_eq0] at h86
                  refine g_goto eX12_best_89 ?_
                  exact skip _ _ _ (if_neg (fun h => h86 (of_decide_eq_true h.2)))
              refine g_ist6 rfl (Nat.le_of_ble_eq_true rfl) eX12_best_63 ?_
              refine g_ild3 eX12_best_65 ?_
              refine g_bipush (v := (-2)) (by decide) eX12_best_66 ?_
              have e2 : (-2 : Int32).toInt = -2 := rfl
              refine g_icmp_eq eX12_best_68 (fun h68 => ?_) (fun h68 => ?_)
              · rw [fa_eq, ha, e2] at h68
                exact try_ (by omega)
              · rw [fa_eq, ha, e2] at h68
                refine g_ild6 eX12_best_71 ?_
                refine g_ild4 eX12_best_73 ?_
                refine g_icmp_ge eX12_best_75 (fun h75 => ?_) (fun h75 => ?_)
                · rw [fa_le, hz, hb9 (by omega)] at h75
                  exact skip _ _ _ (if_neg (fun h => by have := h.1; omega))
                · rw [fa_le, hz, hb9 (by omega)] at h75
                  exact try_ (by omega)
        refine g_bipush (v := (-2)) (by decide) eX12_best_34 ?_
        refine g_ist3 rfl (Nat.le_of_ble_eq_true rfl) eX12_best_36 ?_
        refine g_iconst (v := 0) (by decide) eX12_best_37 ?_
        refine g_ist4 rfl (Nat.le_of_ble_eq_true rfl) eX12_best_38 ?_
        refine g_iconst (v := 0) (by decide) eX12_best_40 ?_
        refine g_ist5 rfl (Nat.le_of_ble_eq_true rfl) eX12_best_41 ?_
        have go := loop (layN (W q)).toNat 0 (s1.2 71) (s1.2 31 63) (s1.2 31 64) (-2) 0 none (by omega) rfl (fun h => absurd rfl h)
        rw [hS_same] at go
        exact go
      · simp only [fa_le, Int32.reduceToInt] at hb3
        rw [nI_toInt (by omega)] at hb3
        exact bad (fun h => by have h9 := h.2.2; rw [e] at h9; omega)
end MODH
