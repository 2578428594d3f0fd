/-! indexOf over the signs -/
section STRI
variable {l : Launch} {D : va_G} {cy : Nat → ClassId}
def sgn (c : Nat) : Bool := [59, 58, 44, 61, 43, 45, 42, 40, 41].contains c
theorem sg_in : ∀ k, k < 9 → ∀ c, c < 256 → txC 6 k = (nI c).toInt8.toInt32 → sgn c = true := by decide +kernel
theorem sg_out : ∀ c, c < 256 → sgn c = true → ∃ k, k < 9 ∧ txC 6 k = (nI c).toInt8.toInt32 := by decide +kernel
theorem j_canEncode (st : St) (c : Nat) (hc : c < 256) : Mi l D cy 0 YJ1_canEncode_9a6ad [.int (nI c)] st (fun r u => u = st ∧ r = 1) := by
  refine M.ofG [some (.int (nI c))] (by decide) (Nat.le_of_ble_eq_true rfl) rfl ?_
  intro xp xe xs xm xa xb xme xc xad xA
  refine g_ild0 eJ1_canEncode_9a6ad_0 ?_
  refine g_if_lt eJ1_canEncode_9a6ad_1 (fun hb => ?_) (fun hb => ?_)
  · exact absurd hb (nI_pos (by omega))
  · refine g_ild0 eJ1_canEncode_9a6ad_4 ?_
    refine g_sipush (v := 255) (by decide) eJ1_canEncode_9a6ad_5 ?_
    refine g_icmp_gt eJ1_canEncode_9a6ad_8 (fun hb2 => ?_) (fun hb2 => ?_)
    · exact absurd hb2 (nI_nlt (a := 255) (b := c) (by omega) (by omega))
    · refine g_iconst (v := 1) (by decide) eJ1_canEncode_9a6ad_11 ?_
      refine g_goto eJ1_canEncode_9a6ad_12 ?_
      exact g_zret (ty := .boolean) rfl (by first | rfl | assumption) eJ1_canEncode_9a6ad_16 ⟨_, rfl, ⟨rfl, rfl⟩⟩
theorem mw_J1_92 : Cond.methodLink RJ1 92 Lib.Math.max.name ∈ wsA ∧ Cond.static Lib.Math.max.name ∈ wsA ∧ Cond.initialized "java/lang/Math" ∈ wsA ∧ Cond.code Lib.Math.max.name Lib.Math.max.code 2 (some .int) ∈ wsA := ⟨wsA_3 5 rfl rfl, wsA_3 6 rfl rfl, wsA_1 17 rfl rfl, wsA_3 7 rfl rfl⟩
theorem mw_J1_38 : Cond.methodLink RJ1 38 Lib.Math.min.name ∈ wsA ∧ Cond.static Lib.Math.min.name ∈ wsA ∧ Cond.initialized "java/lang/Math" ∈ wsA ∧ Cond.code Lib.Math.min.name Lib.Math.min.code 2 (some .int) ∈ wsA := ⟨wsA_3 8 rfl rfl, wsA_3 9 rfl rfl, wsA_1 17 rfl rfl, wsA_3 10 rfl rfl⟩
theorem j_indexOfChar (st : St) (c : Nat) (hc : c < 256) : Mi l D cy 0 YJ1_indexOfChar_4cfef [.ref 129, .int (nI c), .int 0, .int 9] st (fun r u => u = st ∧ (0 ≤ r.toInt ↔ sgn c = true)) := by
  refine M.ofG [some (.ref 129), some (.int (nI c)), some (.int 0), some (.int 9), none, none] (by decide) (Nat.le_of_ble_eq_true rfl) rfl ?_
  intro xp xe xs xm xa xb xme xc xad xA
  have loop : ∀ (f a : Nat), a + f = 9 → (∀ j, j < a → txC 6 j ≠ (nI c).toInt8.toInt32) → G xp l xe (rmd (0)) xs xm xa xb xme xc D cy xad xA (YJ1_indexOfChar_4cfef.2.1, YJ1_indexOfChar_4cfef.1.cls, YJ1_indexOfChar_4cfef.2.2.1, YJ1_indexOfChar_4cfef.2.2.2) (Pi (fun (r : Int32) (u : St) => u = st ∧ (0 ≤ r.toInt ↔ sgn c = true))) 7 ([some (.ref 129), some (.int (nI c)), some (.int 0), some (.int 9), some (.int (nI c).toInt8.toInt32), some (.int (nI a))]) ([]) (st) := by
    intro f
    induction f with
    | zero =>
      intro a ha hall
      refine g_ild5 eJ1_indexOfChar_4cfef_7 ?_
      refine g_ild3 eJ1_indexOfChar_4cfef_9 ?_
      refine g_icmp_ge eJ1_indexOfChar_4cfef_10 (fun hb => ?_) (fun hb => ?_)
      · refine g_iconst (v := (-1)) (by decide) eJ1_indexOfChar_4cfef_31 ?_
        refine g_iret rfl eJ1_indexOfChar_4cfef_32 ⟨_, rfl, ?_⟩
        try dsimp only
        refine ⟨rfl, ?_⟩
        constructor
        · intro h; exact absurd h (by decide)
        · intro h
          obtain ⟨k, hk, e⟩ := sg_out c hc h
          exact absurd e (hall k (by omega))
      · exact absurd (nI_le (a := 9) (b := a) (by omega) (by omega)) hb
    | succ f ih =>
      intro a ha hall
      refine g_ild5 eJ1_indexOfChar_4cfef_7 ?_
      refine g_ild3 eJ1_indexOfChar_4cfef_9 ?_
      refine g_icmp_ge eJ1_indexOfChar_4cfef_10 (fun hb => ?_) (fun hb => ?_)
      · exact absurd hb (nI_ge (a := a) (b := 9) (by omega) (by omega))
      · refine g_ald0 eJ1_indexOfChar_4cfef_13 ?_
        refine g_ild5 eJ1_indexOfChar_4cfef_14 ?_
        refine g_bldT (i := 6) (by decide) (vp_in_nI (n := a) (N := 9) (by omega) (by decide)) eJ1_indexOfChar_4cfef_16 ?_
        rw [nI_clamp (by omega)]
        refine g_ild4 eJ1_indexOfChar_4cfef_17 ?_
        refine g_icmp_ne eJ1_indexOfChar_4cfef_19 (fun hb2 => ?_) (fun hb2 => ?_)
        · refine g_inc5 rfl (Nat.le_of_ble_eq_true rfl) rfl eJ1_indexOfChar_4cfef_25 ?_
          refine g_goto eJ1_indexOfChar_4cfef_28 ?_
          rw [inc1]
          refine ih (a + 1) (by omega) (fun j hj => ?_)
          by_cases hja : j = a
          · rw [hja]; exact hb2
          · exact hall j (by omega)
        · refine g_ild5 eJ1_indexOfChar_4cfef_22 ?_
          refine g_iret rfl eJ1_indexOfChar_4cfef_24 ⟨_, rfl, ?_⟩
          try dsimp only
          refine ⟨rfl, ?_⟩
          rw [nI_toInt (by omega)]
          exact ⟨fun _ => sg_in a (by omega) c hc hb2, fun _ => by omega⟩
  refine g_ild1 eJ1_indexOfChar_4cfef_0 ?_
  refine g_i2b eJ1_indexOfChar_4cfef_1 ?_
  refine g_ist4 rfl (Nat.le_of_ble_eq_true rfl) eJ1_indexOfChar_4cfef_2 ?_
  refine g_ild2 eJ1_indexOfChar_4cfef_4 ?_
  refine g_ist5 rfl (Nat.le_of_ble_eq_true rfl) eJ1_indexOfChar_4cfef_5 ?_
  exact loop 9 0 rfl (fun j hj => absurd hj (Nat.not_lt_zero _))
theorem j_indexOf3 (st : St) (c : Nat) (hc : c < 256) : Mi l D cy 1 YJ1_indexOf_4cfef [.ref 129, .int (nI c), .int 0, .int 9] st (fun r u => u = st ∧ (0 ≤ r.toInt ↔ sgn c = true)) := by
  refine M.ofG [some (.ref 129), some (.int (nI c)), some (.int 0), some (.int 9)] (by decide) (Nat.le_of_ble_eq_true rfl) rfl ?_
  intro xp xe xs xm xa xb xme xc xad xA
  refine g_ild1 eJ1_indexOf_4cfef_0 ?_
  refine g_callSi (j_canEncode st c hc) cs_J1_88 eJ1_indexOf_4cfef_1 (rm_ok (by omega)) rfl rfl (Nat.le_of_ble_eq_true rfl) (fun r st h => ?_)
  obtain ⟨rfl, rfl⟩ := h
  refine g_if_ne eJ1_indexOf_4cfef_4 (fun hb => ?_) (fun hb => ?_)
  · refine g_ild2 eJ1_indexOf_4cfef_9 ?_
    refine g_iconst (v := 0) (by decide) eJ1_indexOf_4cfef_10 ?_
    refine g_imax mw_J1_92 ⟨Nat.le_of_ble_eq_true rfl, Nat.le_of_ble_eq_true rfl⟩ (Nat.le_of_ble_eq_true rfl) eJ1_indexOf_4cfef_11 ?_
    rw [if_neg (show ¬ ((0 : Int32) < 0) by decide)]
    refine g_ist2 rfl (Nat.le_of_ble_eq_true rfl) eJ1_indexOf_4cfef_14 ?_
    refine g_ild3 eJ1_indexOf_4cfef_15 ?_
    refine g_ald0 eJ1_indexOf_4cfef_16 ?_
    refine g_lenT (i := 6) (by decide) eJ1_indexOf_4cfef_17 ?_
    refine g_imin mw_J1_38 ⟨Nat.le_of_ble_eq_true rfl, Nat.le_of_ble_eq_true rfl⟩ (Nat.le_of_ble_eq_true rfl) eJ1_indexOf_4cfef_18 ?_
    rw [if_neg (show ¬ (Int32.ofNat (txN.getD 6 0) < 9) by decide)]
    refine g_ist3 rfl (Nat.le_of_ble_eq_true rfl) eJ1_indexOf_4cfef_21 ?_
    refine g_ild2 eJ1_indexOf_4cfef_22 ?_
    refine g_ild3 eJ1_indexOf_4cfef_23 ?_
    refine g_icmp_lt eJ1_indexOf_4cfef_24 (fun hb2 => ?_) (fun hb2 => ?_)
    · refine g_ald0 eJ1_indexOf_4cfef_29 ?_
      refine g_ild1 eJ1_indexOf_4cfef_30 ?_
      refine g_ild2 eJ1_indexOf_4cfef_31 ?_
      refine g_ild3 eJ1_indexOf_4cfef_32 ?_
      refine g_callSi (j_indexOfChar st c hc) cs_J1_95 eJ1_indexOf_4cfef_33 (rm_ok (by omega)) rfl rfl (Nat.le_of_ble_eq_true rfl) (fun r st h => ?_)
      obtain ⟨rfl, h⟩ := h
      exact g_iret rfl eJ1_indexOf_4cfef_36 ⟨_, rfl, ⟨rfl, h⟩⟩
    · exact absurd (show (0 : Int32) < 9 by decide) hb2
  · exact absurd hb (by decide)
theorem j_indexOf2 (st : St) (c : Nat) (hc : c < 256) : Mi l D cy 2 YJ0_indexOf_7cf53 [.ref 122, .int (nI c), .int 0] st (fun r u => u = st ∧ (0 ≤ r.toInt ↔ sgn c = true)) := by
  refine M.ofG [some (.ref 122), some (.int (nI c)), some (.int 0)] (by decide) (Nat.le_of_ble_eq_true rfl) rfl ?_
  intro xp xe xs xm xa xb xme xc xad xA
  refine g_ald0 eJ0_indexOf_7cf53_0 ?_
  refine g_callTi (i := 6) (j_isLatin1 st (i := 6) (by decide)) (by decide) rfl cv_J0_492 eJ0_indexOf_7cf53_1 (rm_ok (by omega)) rfl rfl (Nat.le_of_ble_eq_true rfl) (fun r st h => ?_)
  obtain ⟨rfl, rfl⟩ := h
  refine g_if_eq eJ0_indexOf_7cf53_4 (fun hb => ?_) (fun hb => ?_)
  · exact absurd hb (by decide)
  · refine g_ald0 eJ0_indexOf_7cf53_7 ?_
    refine g_valT (i := 6) (by decide) fl_J0_9 eJ0_indexOf_7cf53_8 ?_
    refine g_ild1 eJ0_indexOf_7cf53_11 ?_
    refine g_ild2 eJ0_indexOf_7cf53_12 ?_
    refine g_ald0 eJ0_indexOf_7cf53_13 ?_
    refine g_callTi (i := 6) (j_length st (i := 6) (by decide)) (by decide) rfl cv_J0_505 eJ0_indexOf_7cf53_14 (rm_ok (by omega)) rfl rfl (Nat.le_of_ble_eq_true rfl) (fun r st h => ?_)
    obtain ⟨rfl, rfl⟩ := h
    refine g_callSi (j_indexOf3 st c hc) cs_J0_637 eJ0_indexOf_7cf53_17 (rm_ok (by omega)) rfl rfl (Nat.le_of_ble_eq_true rfl) (fun r st h => ?_)
    obtain ⟨rfl, h⟩ := h
    refine g_goto eJ0_indexOf_7cf53_20 ?_
    exact g_iret rfl eJ0_indexOf_7cf53_36 ⟨_, rfl, ⟨rfl, h⟩⟩
theorem j_indexOf (st : St) (c : Nat) (hc : c < 256) : Mi l D cy 3 YJ0_indexOf_0f7a4 [.ref 122, .int (nI c)] st (fun r u => u = st ∧ (0 ≤ r.toInt ↔ sgn c = true)) := by
  refine M.ofG [some (.ref 122), some (.int (nI c))] (by decide) (Nat.le_of_ble_eq_true rfl) rfl ?_
  intro xp xe xs xm xa xb xme xc xad xA
  refine g_ald0 eJ0_indexOf_0f7a4_0 ?_
  refine g_ild1 eJ0_indexOf_0f7a4_1 ?_
  refine g_iconst (v := 0) (by decide) eJ0_indexOf_0f7a4_2 ?_
  refine g_callTi (i := 6) (j_indexOf2 st c hc) (by decide) rfl cv_J0_633 eJ0_indexOf_0f7a4_3 (rm_ok (by omega)) rfl rfl (Nat.le_of_ble_eq_true rfl) (fun r st h => ?_)
  obtain ⟨rfl, h⟩ := h
  exact g_iret rfl eJ0_indexOf_0f7a4_6 ⟨_, rfl, ⟨rfl, h⟩⟩
end STRI
