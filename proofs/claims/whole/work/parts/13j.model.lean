/-! SealedSumsModel: run, the walk -/
section MODK
variable {l : Launch} {D : va_G} {cy : Nat → ClassId}
theorem in1000 (seed : Int32) (k : Nat) : seed + 1000 + nI k = seed + nI (1000 + k) := by
  rw [show nI (1000 + k) = (1000 : Int32) + nI k from (nI_add 1000 k).symm, Int32.add_assoc]
def runP (s1 : St) (np n : Nat) (K A B U : Nat → Nat → Int) (W I O : Nat → Nat) (x k seed : Int32) (r : Int32) (u : St) : Prop :=
  (runOK s1 np n W I O x k → match mrun s1 (mkof s1 (mgv s1 0).toNat).toNat (K (qI x)) (A (qI x)) (B (qI x)) (W (qI x)) k.toInt seed with
    | none => r = -2 ∧ ∃ f g c d, u = rS s1 f g c d
    | some s => r = nI n ∧ ∃ f g c d, selR (rS s1 f g c d) n (nI (mkof s1 (mgv s1 0).toNat).toNat) (outC (mP s1 (mkof s1 (mgv s1 0).toNat).toNat) (s1.1 64 (mkof s1 (mgv s1 0).toNat).toNat).toInt (s1.1 65 (mkof s1 (mgv s1 0).toNat).toNat).toInt (s1.1 31 17).toInt seed (U (qI x)) s.1) (outB (fBm s1 (mkof s1 (mgv s1 0).toNat).toNat) (U (qI x)) s.2) (O (qI x)) u) ∧
  (¬ runOK s1 np n W I O x k → r = -1 ∧ u = s1)
set_option maxHeartbeats 8000000 in
theorem w_run (st s1 : St) (hT : sI st 31 18 0 = s1) {nk n : Nat} (hx : mOK s1 nk n) (hod : oddM s1 nk) (hgv : ∀ i, i < 6 → mgv s1 i = -1 ∨ (0 ≤ mgv s1 i ∧ mgv s1 i < (n : Int))) (np : Nat) (hn : s1.1 31 19 = nI np) (h4 : np ≤ 4) {K A B U : Nat → Nat → Int} {W I O : Nat → Nat} (hp : ∀ q, q < np → mPg (s1.1 31 17).toInt s1 q (K q) (A q) (B q) (U q) (W q) (I q) (O q)) (x k seed : Int32) : Mi l D cy 4 YX12_run [.ref 31, .int x, .int k, .int seed] st (runP s1 np n K A B U W I O x k seed) := by
  have hcn : (s1.1 31 19).toInt = np := by rw [hn, nI_toInt (by omega)]
  obtain ⟨x1, x2, x3, x4, x5, x6, x7, x8, x9⟩ := hx
  refine M.ofG [some (.ref 31), some (.int x), some (.int k), some (.int seed), none, none, none, none, none] (by decide) (Nat.le_of_ble_eq_true rfl) rfl ?_
  intro xp xe xs xm xa xb xme xc xad xA
  have bad : ¬ runOK s1 np n W I O x k → G xp l xe (rmd (4)) xs xm xa xb xme xc D cy xad xA (YX12_run.2.1, YX12_run.1.cls, YX12_run.2.2.1, YX12_run.2.2.2) (Pi (runP s1 np n K A B U W I O x k seed)) 47 ([some (.ref 31), some (.int x), some (.int k), some (.int seed), none, none, none, none, none]) ([]) (s1) := by
    intro hb
    refine g_iconst (v := (-1)) (by decide) eX12_run_47 ?_
    refine g_iret rfl eX12_run_48 ⟨_, rfl, ?_⟩
    try dsimp only
    exact ⟨fun h => absurd h hb, fun _ => ⟨rfl, rfl⟩⟩
  refine g_ald0 eX12_run_0 ?_
  refine g_iconst (v := 0) (by decide) eX12_run_1 ?_
  refine g_putI (ci := 11) (j := 18) rfl rfl (Nat.le_of_ble_eq_true rfl) (Nat.le_of_ble_eq_true rfl) (Nat.le_of_ble_eq_true rfl) rfl fl_X12_177 eX12_run_2 ?_
  rw [hT]
  refine g_ald0 eX12_run_5 ?_
  refine g_ild1 eX12_run_6 ?_
  refine g_callVi (ci := 11) (w_isProgram _ x) rfl (Nat.le_of_ble_eq_true rfl) (Nat.le_of_ble_eq_true rfl) rfl cv_X12_461 eX12_run_7 ⟨Nat.le_of_ble_eq_true rfl, Nat.le_of_ble_eq_true rfl⟩ rfl rfl (Nat.le_of_ble_eq_true rfl) (fun r s1 h => ?_)
  obtain ⟨rfl, rfl⟩ := h
  refine g_if_eq eX12_run_10 (fun hb => ?_) (fun hb => ?_)
  · rw [b2_eq0, hcn] at hb
    exact bad (fun h => hb h.1.1.1)
  · rw [b2_ne0, hcn] at hb
    obtain ⟨q, hq, rfl⟩ := as_nI hb
    have e : qI (nI q) = q := nI_clamp (by omega)
    have hc : (nI q).toNatClampNeg = q := e
    have hpq := hp q hq
    refine g_ald0 eX12_run_13 ?_
    refine g_ild1 eX12_run_14 ?_
    refine g_ild2 eX12_run_15 ?_
    refine g_callVi (ci := 11) (w_isLaying _ q (by omega) _ hpq.1 hpq.2.2.2.1 k) rfl (Nat.le_of_ble_eq_true rfl) (Nat.le_of_ble_eq_true rfl) rfl cv_X12_464 eX12_run_16 ⟨Nat.le_of_ble_eq_true rfl, Nat.le_of_ble_eq_true rfl⟩ rfl rfl (Nat.le_of_ble_eq_true rfl) (fun r s1 h => ?_)
    obtain ⟨rfl, rfl⟩ := h
    refine g_if_eq eX12_run_19 (fun hb2 => ?_) (fun hb2 => ?_)
    · rw [b2_eq0] at hb2
      exact bad (fun h => hb2 (by have := h.1.1.2; rw [e] at this; exact this))
    · rw [b2_ne0] at hb2
      have hl2 := layN_le (W q)
      obtain ⟨v, hv, rfl⟩ := as_nI (x := k) (n := 4096) (by omega)
      have htv : (nI v).toInt = v := nI_toInt (by omega)
      obtain ⟨p1, p2, p3, p4, p5, p6, p7, p8, p9, p10⟩ := hpq
      refine g_ald0 eX12_run_22 ?_
      refine g_getR (ci := 11) (j := 21) rfl (Nat.le_of_ble_eq_true rfl) (Nat.le_of_ble_eq_true rfl) (Nat.le_of_ble_eq_true rfl) rfl rfl fl_X12_37 eX12_run_23 ?_
      refine g_ild1 eX12_run_26 ?_
      refine g_iald rfl (Nat.le_of_ble_eq_true rfl) (vp_in_nI (n := q) (N := 5) (by omega) (by decide)) eX12_run_27 ?_
      rw [hc, p2]
      refine g_if_eq eX12_run_28 (fun hb3 => ?_) (fun hb3 => ?_)
      · rw [fa_eq, nI_toInt (by omega), z32] at hb3
        exact bad (fun h => by have h9 := h.1.2.1; rw [e] at h9; omega)
      · rw [fa_eq, nI_toInt (by omega), z32] at hb3
        refine g_ald0 eX12_run_31 ?_
        refine g_getI (ci := 11) (j := 58) rfl (Nat.le_of_ble_eq_true rfl) (Nat.le_of_ble_eq_true rfl) (Nat.le_of_ble_eq_true rfl) rfl fl_X12_408 eX12_run_32 ?_
        refine g_ald0 eX12_run_35 ?_
        refine g_getR (ci := 11) (j := 22) rfl (Nat.le_of_ble_eq_true rfl) (Nat.le_of_ble_eq_true rfl) (Nat.le_of_ble_eq_true rfl) rfl rfl fl_X12_40 eX12_run_36 ?_
        refine g_ild1 eX12_run_39 ?_
        refine g_iald rfl (Nat.le_of_ble_eq_true rfl) (vp_in_nI (n := q) (N := 5) (by omega) (by decide)) eX12_run_40 ?_
        rw [hc, p3, x3]
        refine g_iadd eX12_run_41 ?_
        refine g_bipush (v := 60) (by decide) eX12_run_42 ?_
        rw [nI_add]
        refine g_icmp_le eX12_run_44 (fun hb4 => ?_) (fun hb4 => ?_)
        · simp only [fa_le, Int32.reduceToInt] at hb4
          rw [nI_toInt (by omega)] at hb4
          have hck : ∀ (f a : Nat), a + f = I q → (∀ j, j < a → 0 ≤ mgv s1 j ∧ mkof s1 (mgv s1 j).toNat = mkof s1 (mgv s1 0).toNat) → ((∀ j, j < I q → 0 ≤ mgv s1 j ∧ mkof s1 (mgv s1 j).toNat = mkof s1 (mgv s1 0).toNat) → ∀ y4 : Int32, G xp l xe (rmd (4)) xs xm xa xb xme xc D cy xad xA (YX12_run.2.1, YX12_run.1.cls, YX12_run.2.2.1, YX12_run.2.2.2) (Pi (runP s1 np n K A B U W I O (nI q) (nI v) seed)) 108 ([some (.ref 31), some (.int (nI q)), some (.int (nI v)), some (.int seed), some (.int y4), none, none, none, none]) ([]) (s1)) → G xp l xe (rmd (4)) xs xm xa xb xme xc D cy xad xA (YX12_run.2.1, YX12_run.1.cls, YX12_run.2.2.1, YX12_run.2.2.2) (Pi (runP s1 np n K A B U W I O (nI q) (nI v) seed)) 52 ([some (.ref 31), some (.int (nI q)), some (.int (nI v)), some (.int seed), some (.int (nI a)), none, none, none, none]) ([]) (s1) := by
            intro f
            induction f with
            | zero =>
              intro a ha h0 hend
              refine g_ild4 eX12_run_52 ?_
              refine g_ald0 eX12_run_54 ?_
              refine g_getR (ci := 11) (j := 21) rfl (Nat.le_of_ble_eq_true rfl) (Nat.le_of_ble_eq_true rfl) (Nat.le_of_ble_eq_true rfl) rfl rfl fl_X12_37 eX12_run_55 ?_
              refine g_ild1 eX12_run_58 ?_
              refine g_iald rfl (Nat.le_of_ble_eq_true rfl) (vp_in_nI (n := q) (N := 5) (by omega) (by decide)) eX12_run_59 ?_
              rw [hc, p2]
              refine g_icmp_ge eX12_run_60 (fun h60 => ?_) (fun h60 => ?_)
              · exact hend (fun j hj => h0 j (by omega)) _
              · exact absurd (nI_le (by omega) (by omega)) h60
            | succ f ih =>
              intro a ha h0 hend
              have hca : (nI a).toNatClampNeg = a := nI_clamp (by omega)
              have em1 : (-1 : Int32).toInt = -1 := rfl
              have no : ¬ (0 ≤ mgv s1 a ∧ mkof s1 (mgv s1 a).toNat = mkof s1 (mgv s1 0).toNat) → G xp l xe (rmd (4)) xs xm xa xb xme xc D cy xad xA (YX12_run.2.1, YX12_run.1.cls, YX12_run.2.2.1, YX12_run.2.2.2) (Pi (runP s1 np n K A B U W I O (nI q) (nI v) seed)) 100 ([some (.ref 31), some (.int (nI q)), some (.int (nI v)), some (.int seed), some (.int (nI a)), none, none, none, none]) ([]) (s1) := by
                intro hno
                refine g_iconst (v := (-1)) (by decide) eX12_run_100 ?_
                refine g_iret rfl eX12_run_101 ⟨_, rfl, ?_⟩
                try dsimp only
                refine ⟨fun h => absurd ?_ hno, fun _ => ⟨rfl, rfl⟩⟩
                have h9 := h.1.2.2
                rw [e] at h9
                exact h9 a (by omega)
              refine g_ild4 eX12_run_52 ?_
              refine g_ald0 eX12_run_54 ?_
              refine g_getR (ci := 11) (j := 21) rfl (Nat.le_of_ble_eq_true rfl) (Nat.le_of_ble_eq_true rfl) (Nat.le_of_ble_eq_true rfl) rfl rfl fl_X12_37 eX12_run_55 ?_
              refine g_ild1 eX12_run_58 ?_
              refine g_iald rfl (Nat.le_of_ble_eq_true rfl) (vp_in_nI (n := q) (N := 5) (by omega) (by decide)) eX12_run_59 ?_
              rw [hc, p2]
              refine g_icmp_ge eX12_run_60 (fun h60 => ?_) (fun h60 => ?_)
              · exact absurd h60 (nI_ge (by omega) (by omega))
              · refine g_ald0 eX12_run_63 ?_
                refine g_getR (ci := 11) (j := 67) rfl (Nat.le_of_ble_eq_true rfl) (Nat.le_of_ble_eq_true rfl) (Nat.le_of_ble_eq_true rfl) rfl rfl fl_X12_137 eX12_run_64 ?_
                refine g_ild4 eX12_run_67 ?_
                refine g_iald rfl (Nat.le_of_ble_eq_true rfl) (vp_in_nI (n := a) (N := 6) (by omega) (by decide)) eX12_run_69 ?_
                refine g_iconst (v := (-1)) (by decide) eX12_run_70 ?_
                rw [hca]
                refine g_icmp_eq eX12_run_71 (fun h71 => ?_) (fun h71 => ?_)
                · rw [fa_eq, em1] at h71
                  exact no (fun h => by have := h.1; unfold mgv at this; omega)
                · rw [fa_eq, em1] at h71
                  have hga : 0 ≤ mgv s1 a ∧ mgv s1 a < (n : Int) := (hgv a (by omega)).resolve_left h71
                  have h00 : 0 ≤ mgv s1 0 ∧ mgv s1 0 < (n : Int) := by
                    by_cases ha0 : a = 0
                    · rw [← ha0]; exact hga
                    · exact (hgv 0 (by decide)).resolve_left (fun h => by have := (h0 0 (by omega)).1; omega)
                  unfold mgv at hga h00
                  refine g_ald0 eX12_run_74 ?_
                  refine g_getR (ci := 11) (j := 59) rfl (Nat.le_of_ble_eq_true rfl) (Nat.le_of_ble_eq_true rfl) (Nat.le_of_ble_eq_true rfl) rfl rfl fl_X12_122 eX12_run_75 ?_
                  refine g_ald0 eX12_run_78 ?_
                  refine g_getR (ci := 11) (j := 67) rfl (Nat.le_of_ble_eq_true rfl) (Nat.le_of_ble_eq_true rfl) (Nat.le_of_ble_eq_true rfl) rfl rfl fl_X12_137 eX12_run_79 ?_
                  refine g_ild4 eX12_run_82 ?_
                  refine g_iald rfl (Nat.le_of_ble_eq_true rfl) (vp_in_nI (n := a) (N := 6) (by omega) (by decide)) eX12_run_84 ?_
                  refine g_iald rfl (Nat.le_of_ble_eq_true rfl) (by rw [hca]; exact vin hga.1 (Int.lt_of_lt_of_le hga.2 (by show (n : Int) ≤ ((60 : Nat) : Int); omega))) eX12_run_85 ?_
                  refine g_ald0 eX12_run_86 ?_
                  refine g_getR (ci := 11) (j := 59) rfl (Nat.le_of_ble_eq_true rfl) (Nat.le_of_ble_eq_true rfl) (Nat.le_of_ble_eq_true rfl) rfl rfl fl_X12_122 eX12_run_87 ?_
                  refine g_ald0 eX12_run_90 ?_
                  refine g_getR (ci := 11) (j := 67) rfl (Nat.le_of_ble_eq_true rfl) (Nat.le_of_ble_eq_true rfl) (Nat.le_of_ble_eq_true rfl) rfl rfl fl_X12_137 eX12_run_91 ?_
                  refine g_iconst (v := 0) (by decide) eX12_run_94 ?_
                  refine g_iald rfl (Nat.le_of_ble_eq_true rfl) (vp_in_nI (n := 0) (N := 6) (by omega) (by decide)) eX12_run_95 ?_
                  refine g_iald rfl (Nat.le_of_ble_eq_true rfl) (vin h00.1 (Int.lt_of_lt_of_le h00.2 (by show (n : Int) ≤ ((60 : Nat) : Int); omega))) eX12_run_96 ?_
                  rw [hca]
                  refine g_icmp_eq eX12_run_97 (fun h97 => ?_) (fun h97 => ?_)
                  · refine g_inc4 rfl (Nat.le_of_ble_eq_true rfl) rfl eX12_run_102 ?_
                    refine g_goto eX12_run_105 ?_
                    rw [inc1]
                    refine ih (a + 1) (by omega) (fun j hj => ?_) hend
                    by_cases hja : j = a
                    · subst hja
                      refine ⟨hga.1, ?_⟩
                      show (s1.1 67 (s1.1 72 j).toInt.toNat).toInt = (s1.1 67 (s1.1 72 0).toInt.toNat).toInt
                      rw [← clamp_to, h97]
                      rfl
                    · exact h0 j (by omega)
                  · refine no (fun h => h97 ?_)
                    have h9 := h.2
                    unfold mkof mgv at h9
                    exact Int32.toInt_inj.mp h9
          refine g_iconst (v := 0) (by decide) eX12_run_49 ?_
          refine g_ist4 rfl (Nat.le_of_ble_eq_true rfl) eX12_run_50 ?_
          refine hck (I q) 0 (by omega) (fun j hj => by omega) (fun hall y4 => ?_)
          have hg60 : ∀ j, j < I q → 0 ≤ (s1.1 72 j).toInt ∧ (s1.1 72 j).toInt < (n : Int) := fun j hj => (hgv j (by omega)).resolve_left (fun h => by have := (hall j hj).1; omega)
          have h00 := hg60 0 (by omega)
          obtain ⟨i, hi, hki⟩ := x7 (s1.1 72 0).toInt.toNat (by omega)
          have hkey : (mkof s1 (mgv s1 0).toNat).toNat = i := by
            show (s1.1 67 (s1.1 72 0).toInt.toNat).toInt.toNat = i
            rw [hki]; exact nI_clamp (by omega)
          have hkey2 : mkof s1 (mgv s1 0).toNat = (i : Int) := by
            show (s1.1 67 (s1.1 72 0).toInt.toNat).toInt = i
            rw [hki, nI_toInt (by omega)]
          have hci : (nI i).toNatClampNeg = i := nI_clamp (by omega)
          have hcK : (s1.1 31 53).toInt = nk := by rw [x1, nI_toInt (by omega)]
          have ho := x6 i hi
          have hodd := hod i hi
          have hF := fB_rng ho x5
          refine g_ald0 eX12_run_108 ?_
          refine g_getR (ci := 11) (j := 59) rfl (Nat.le_of_ble_eq_true rfl) (Nat.le_of_ble_eq_true rfl) (Nat.le_of_ble_eq_true rfl) rfl rfl fl_X12_122 eX12_run_109 ?_
          refine g_ald0 eX12_run_112 ?_
          refine g_getR (ci := 11) (j := 67) rfl (Nat.le_of_ble_eq_true rfl) (Nat.le_of_ble_eq_true rfl) (Nat.le_of_ble_eq_true rfl) rfl rfl fl_X12_137 eX12_run_113 ?_
          refine g_iconst (v := 0) (by decide) eX12_run_116 ?_
          refine g_iald rfl (Nat.le_of_ble_eq_true rfl) (vp_in_nI (n := 0) (N := 6) (by omega) (by decide)) eX12_run_117 ?_
          refine g_iald rfl (Nat.le_of_ble_eq_true rfl) (vin h00.1 (Int.lt_of_lt_of_le h00.2 (by show (n : Int) ≤ ((60 : Nat) : Int); omega))) eX12_run_118 ?_
          rw [show (s1.1 72 (0 : Int32).toNatClampNeg).toNatClampNeg = (s1.1 72 0).toInt.toNat from rfl, hki]
          refine g_ist4 rfl (Nat.le_of_ble_eq_true rfl) eX12_run_119 ?_
          refine g_ald0 eX12_run_121 ?_
          refine g_getR (ci := 11) (j := 57) rfl (Nat.le_of_ble_eq_true rfl) (Nat.le_of_ble_eq_true rfl) (Nat.le_of_ble_eq_true rfl) rfl rfl fl_X12_118 eX12_run_122 ?_
          refine g_ild4 eX12_run_125 ?_
          refine g_zald rfl (Nat.le_of_ble_eq_true rfl) (vp_in_nI (n := i) (N := 4) (by omega) (by decide)) eX12_run_127 ?_
          rw [hci]
          refine g_if_eq eX12_run_128 (fun h128 => ?_) (fun h128 => ?_)
          · have hok : runOK s1 np n W I O (nI q) (nI v) := by
              refine ⟨⟨⟨hb, by rw [e]; exact hb2⟩, ?_⟩, ?_, ?_⟩
              · rw [e]; exact ⟨by omega, hall⟩
              · rw [hkey2]
                exact ⟨⟨by omega, by rw [hcK]; omega⟩, h128⟩
              · rw [e]; omega
            generalize hR : rnF (K q) (A q) (B q) (mP s1 i) (s1.1 64 i).toInt (s1.1 65 i).toInt (s1.1 31 17).toInt (v : Int) seed (inSl (mcof s1) (mgv s1), inSl (mbof s1) (mgv s1)) = RR
            have hmr : mrun s1 (mkof s1 (mgv s1 0).toNat).toNat (K (qI (nI q))) (A (qI (nI q))) (B (qI (nI q))) (W (qI (nI q))) (nI v).toInt seed = RR (W q) := by
              unfold mrun
              rw [hkey, e, htv, hR]
            have hini : ∀ {a : Nat} {s0 : (Nat → Int) × (Nat → Int)}, RR a = some s0 → a ≤ 40 → ∀ j, 40 ≤ j → s0.1 j = mcof s1 (mgv s1 (j - 40)).toNat ∧ s0.2 j = mbof s1 (mgv s1 (j - 40)).toNat := by
              intro a s0 h ha j hj
              rw [← hR] at h
              have h9 := rnF_hi h j (by omega)
              refine ⟨h9.1.trans ?_, h9.2.trans ?_⟩
              · show (if j < 40 then 0 else _) = _
                rw [if_neg (by omega)]
              · show (if j < 40 then 0 else _) = _
                rw [if_neg (by omega)]
            have hsC : ∀ {a : Nat} {s0 : (Nat → Int) × (Nat → Int)} (f g : Nat → Int64) (c d : Int64), RR a = some s0 → a ≤ 40 → (∀ j, j < a → (f j).toInt = s0.1 j ∧ (g j).toInt = s0.2 j) → ∀ z : Int, cOK a (I q) z → (slC (rS s1 f g c d) z.toNat).toInt = s0.1 z.toNat ∧ (slB (rS s1 f g c d) z.toNat).toInt = s0.2 z.toNat := by
              intro a s0 f g c d h ha hfg z hz
              rw [rS_slC, rS_slB]
              unfold cOK at hz
              by_cases hz4 : z.toNat < 40
              · rw [if_pos hz4, if_pos hz4]
                exact hfg _ (by omega)
              · rw [if_neg hz4, if_neg hz4]
                have h9 := hini h ha z.toNat (by omega)
                rw [h9.1, h9.2]
                exact ⟨rfl, rfl⟩
            have hrin : ∀ {a : Nat} {s0 : (Nat → Int) × (Nat → Int)}, RR a = some s0 → a ≤ 40 → ∀ j, 40 ≤ j → j < 40 + I q → (0 ≤ s0.1 j ∧ s0.1 j < 100000000) ∧ 0 ≤ s0.2 j ∧ s0.2 j ≤ 1000000 := by
              intro a s0 h ha j hj hj2
              have h9 := hini h ha j hj
              have h8 := hg60 (j - 40) (by omega)
              rw [h9.1, h9.2]
              exact ⟨x9 _ (by unfold mgv; omega), x8 _ (by unfold mgv; omega)⟩
            have hpq2 := pq_rng ho
            have outs : ∀ (s0 : (Nat → Int) × (Nat → Int)) (f g : Nat → Int64) (c d : Int64), RR (W q) = some s0 → (∀ j, j < W q → (f j).toInt = s0.1 j ∧ (g j).toInt = s0.2 j) → (∀ j, j < W q → (0 ≤ s0.1 j ∧ s0.1 j < 100000000) ∧ 0 ≤ s0.2 j ∧ s0.2 j ≤ 1000000) → ∀ (f9 a : Nat) (u : St) (y7 y8 : Option Value), a + f9 = O q → selR (rS s1 f g c d) n (nI i) (outC (mP s1 i) (s1.1 64 i).toInt (s1.1 65 i).toInt (s1.1 31 17).toInt seed (U q) s0.1) (outB (fBm s1 i) (U q) s0.2) a u → G xp l xe (rmd (4)) xs xm xa xb xme xc D cy xad xA (YX12_run.2.1, YX12_run.1.cls, YX12_run.2.2.1, YX12_run.2.2.2) (Pi (runP s1 np n K A B U W I O (nI q) (nI v) seed)) 374 ([some (.ref 31), some (.int (nI q)), some (.int (nI v)), some (.int seed), some (.int (nI i)), some (.int (nI n)), some (.int (nI a)), y7, y8]) ([]) (u) := by
              intro s0 f g c d hs hfg hrg f9
              induction f9 with
              | zero =>
                intro a u y7 y8 ha hsel
                obtain ⟨s1k, s2k, s3k, s4k, s5k⟩ := selR_keeps (st := rS s1 f g c d) x3 hsel
                refine g_ild6 eX12_run_374 ?_
                refine g_ald0 eX12_run_376 ?_
                refine g_getR (ci := 11) (j := 22) rfl (Nat.le_of_ble_eq_true rfl) (Nat.le_of_ble_eq_true rfl) (Nat.le_of_ble_eq_true rfl) rfl rfl fl_X12_40 eX12_run_377 ?_
                refine g_ild1 eX12_run_380 ?_
                refine g_iald rfl (Nat.le_of_ble_eq_true rfl) (vp_in_nI (n := q) (N := 5) (by omega) (by decide)) eX12_run_381 ?_
                rw [hc, s1k _ (by decide) (by decide) (by decide), rS_1, p3]
                refine g_icmp_ge eX12_run_382 (fun h382 => ?_) (fun h382 => ?_)
                · refine g_ild5 eX12_run_479 ?_
                  refine g_iret rfl eX12_run_481 ⟨_, rfl, ?_⟩
                  try dsimp only
                  refine ⟨fun _ => ?_, fun h => absurd hok h⟩
                  rw [hmr, hs]
                  refine ⟨rfl, f, g, c, d, ?_⟩
                  rw [hkey, e, show O q = a by omega]
                  exact hsel
                · exact absurd (nI_le (by omega) (by omega)) h382
              | succ f9 ih =>
                intro a u y7 y8 ha hsel
                obtain ⟨s1k, s2k, s3k, s4k, s5k⟩ := selR_keeps (st := rS s1 f g c d) x3 hsel
                have k1 := p8 a (by omega)
                have k2 := p10 a (by omega)
                have hca : (nI (4 * q + a)).toNatClampNeg = 4 * q + a := nI_clamp (by omega)
                have hou : mkOK u i := by
                  unfold mkOK
                  rw [s1k 63 (by decide) (by decide) (by decide), s1k 64 (by decide) (by decide) (by decide), s1k 65 (by decide) (by decide) (by decide)]
                  exact ho
                have hbu : u.1 31 17 = s1.1 31 17 := s2k _ (by decide)
                have last : ∀ (z : Int32) (u2 : St), z = nI (n + a) → selR (rS s1 f g c d) n (nI i) (outC (mP s1 i) (s1.1 64 i).toInt (s1.1 65 i).toInt (s1.1 31 17).toInt seed (U q) s0.1) (outB (fBm s1 i) (U q) s0.2) (a + 1) u2 → ∀ y7 y8 : Option Value, G xp l xe (rmd (4)) xs xm xa xb xme xc D cy xad xA (YX12_run.2.1, YX12_run.1.cls, YX12_run.2.2.1, YX12_run.2.2.2) (Pi (runP s1 np n K A B U W I O (nI q) (nI v) seed)) 462 ([some (.ref 31), some (.int (nI q)), some (.int (nI v)), some (.int seed), some (.int (nI i)), some (.int (nI n)), some (.int (nI a)), some (.int (s1.1 41 (4 * q + a))), y8]) ([.int z]) (u2) := by
                  intro z u2 hz hsel2 y7 y8
                  subst hz
                  refine g_ist8 rfl (Nat.le_of_ble_eq_true rfl) eX12_run_462 ?_
                  refine g_ild8 eX12_run_464 ?_
                  refine g_ild5 eX12_run_466 ?_
                  refine g_icmp_ge eX12_run_468 (fun h468 => ?_) (fun h468 => ?_)
                  · refine g_inc6 rfl (Nat.le_of_ble_eq_true rfl) rfl eX12_run_473 ?_
                    refine g_goto eX12_run_476 ?_
                    rw [inc1]
                    exact ih (a + 1) u2 _ _ (by omega) hsel2
                  · exact absurd (nI_le (by omega) (by omega)) h468
                refine g_ild6 eX12_run_374 ?_
                refine g_ald0 eX12_run_376 ?_
                refine g_getR (ci := 11) (j := 22) rfl (Nat.le_of_ble_eq_true rfl) (Nat.le_of_ble_eq_true rfl) (Nat.le_of_ble_eq_true rfl) rfl rfl fl_X12_40 eX12_run_377 ?_
                refine g_ild1 eX12_run_380 ?_
                refine g_iald rfl (Nat.le_of_ble_eq_true rfl) (vp_in_nI (n := q) (N := 5) (by omega) (by decide)) eX12_run_381 ?_
                rw [hc, s1k 40 (by decide) (by decide) (by decide), rS_1, p3]
                refine g_icmp_ge eX12_run_382 (fun h382 => ?_) (fun h382 => ?_)
                · exact absurd h382 (nI_ge (by omega) (by omega))
                · refine g_ald0 eX12_run_385 ?_
                  refine g_getR (ci := 11) (j := 23) rfl (Nat.le_of_ble_eq_true rfl) (Nat.le_of_ble_eq_true rfl) (Nat.le_of_ble_eq_true rfl) rfl rfl fl_X12_43 eX12_run_386 ?_
                  refine g_iconst (v := 4) (by decide) eX12_run_389 ?_
                  refine g_ild1 eX12_run_390 ?_
                  refine g_imul eX12_run_391 ?_
                  refine g_ild6 eX12_run_392 ?_
                  refine g_iadd eX12_run_394 ?_
                  rw [ix4]
                  refine g_iald rfl (Nat.le_of_ble_eq_true rfl) (vp_in_nI (n := 4 * q + a) (N := 20) (by omega) (by decide)) eX12_run_395 ?_
                  refine g_ist7 rfl (Nat.le_of_ble_eq_true rfl) eX12_run_396 ?_
                  refine g_ild7 eX12_run_398 ?_
                  rw [hca, s1k 41 (by decide) (by decide) (by decide), rS_1]
                  refine g_callSi (w_isOpen _ _) cs_X12_339 eX12_run_400 ⟨Nat.le_of_ble_eq_true rfl, Nat.le_of_ble_eq_true rfl⟩ rfl rfl (Nat.le_of_ble_eq_true rfl) (fun r u h => ?_)
                  obtain ⟨rfl, rfl⟩ := h
                  rw [k1]
                  refine g_if_eq eX12_run_403 (fun h403 => ?_) (fun h403 => ?_)
                  · rw [b2_eq0] at h403
                    have hcU : cOK (W q) (I q) (U q a) := k2.resolve_right (fun h => h403 (by unfold toldF; rw [if_pos h.2]; omega))
                    have hU0 : ¬ U q a < 0 := by unfold cOK at hcU; omega
                    have hgu : ∀ j, j < I q → 0 ≤ (u.1 72 j).toInt ∧ (u.1 72 j).toInt < 60 := fun j hj => by
                      rw [s1k _ (by decide) (by decide) (by decide)]
                      have := hg60 j hj
                      rw [rS_1]
                      omega
                    have eC : slC u (U q a).toNat = slC (rS s1 f g c d) (U q a).toNat := by
                      unfold slC
                      by_cases h9 : (U q a).toNat < 40
                      · rw [if_pos h9, if_pos h9, s4k _ (by decide) (by decide)]
                      · have h8 := hg60 ((U q a).toNat - 40) (by unfold cOK at hcU; omega)
                        rw [if_neg h9, if_neg h9, s1k _ (by decide) (by decide) (by decide), rS_1, (s5k _ (by omega)).1]
                    have eB : slB u (U q a).toNat = slB (rS s1 f g c d) (U q a).toNat := by
                      unfold slB
                      by_cases h9 : (U q a).toNat < 40
                      · rw [if_pos h9, if_pos h9, s4k _ (by decide) (by decide)]
                      · have h8 := hg60 ((U q a).toNat - 40) (by unfold cOK at hcU; omega)
                        rw [if_neg h9, if_neg h9, s1k _ (by decide) (by decide) (by decide), rS_1, (s5k _ (by omega)).2]
                    have hv9 := hsC f g c d hs (by omega) hfg _ hcU
                    have hrB : 0 ≤ s0.2 (U q a).toNat ∧ s0.2 (U q a).toNat ≤ 1000000 := by
                      by_cases h9 : (U q a).toNat < 40
                      · exact (hrg _ (by unfold cOK at hcU; omega)).2
                      · exact (hrin hs (by omega) _ (by omega) (by unfold cOK at hcU; omega)).2
                    refine g_ald0 eX12_run_442 ?_
                    refine g_ild4 eX12_run_443 ?_
                    refine g_ald0 eX12_run_445 ?_
                    refine g_ild7 eX12_run_446 ?_
                    refine g_callVl (ci := 11) (w_valueC _ p4 p5 hgu _ hcU _ k1) rfl (Nat.le_of_ble_eq_true rfl) (Nat.le_of_ble_eq_true rfl) rfl cv_X12_474 eX12_run_448 ⟨Nat.le_of_ble_eq_true rfl, Nat.le_of_ble_eq_true rfl⟩ rfl rfl (Nat.le_of_ble_eq_true rfl) (fun zc u h => ?_)
                    obtain ⟨rfl, rfl⟩ := h
                    refine g_ald0 eX12_run_451 ?_
                    refine g_ild7 eX12_run_452 ?_
                    refine g_callVl (ci := 11) (w_valueBound _ p4 p5 hgu _ hcU _ k1) rfl (Nat.le_of_ble_eq_true rfl) (Nat.le_of_ble_eq_true rfl) rfl cv_X12_477 eX12_run_454 ⟨Nat.le_of_ble_eq_true rfl, Nat.le_of_ble_eq_true rfl⟩ rfl rfl (Nat.le_of_ble_eq_true rfl) (fun zb u h => ?_)
                    obtain ⟨rfl, rfl⟩ := h
                    refine g_bipush (v := 7) (by decide) eX12_run_457 ?_
                    refine g_callVi (ci := 11) (w_seals _ (n + a) s3k (by omega) (nI i) _ _ _) rfl (Nat.le_of_ble_eq_true rfl) (Nat.le_of_ble_eq_true rfl) rfl cv_X12_425 eX12_run_459 ⟨Nat.le_of_ble_eq_true rfl, Nat.le_of_ble_eq_true rfl⟩ rfl rfl (Nat.le_of_ble_eq_true rfl) (fun z u2 h => ?_)
                    obtain ⟨hz, b9, hb9, rfl⟩ := h
                    refine last z _ hz ⟨u, hsel, _, _, ?_, ?_, rfl⟩ none y8
                    · unfold outC
                      rw [if_neg hU0, eC, hv9.1]
                    · unfold outB
                      rw [if_neg hU0, hb9, eB, hv9.2]
                      omega
                  · rw [b2_ne0] at h403
                    have hU0 : -(s1.1 31 17).toInt ≤ U q a ∧ U q a < 0 := k2.resolve_left (fun h => by
                      rcases told_cases h p4 with h9 | h9 <;> omega)
                    have eT : toldF (U q a) = -29 + U q a := by unfold toldF; rw [if_pos hU0.2]; omega
                    have hm9 : 0 ≤ -1 - U q a ∧ -1 - U q a < 13 := by omega
                    have e30 : (-30 : Int32).toInt = -30 := rfl
                    have eo : (-30 - s1.1 41 (4 * q + a)).toInt = -1 - U q a := by rw [fb_subI] <;> rw [e30, k1, eT] <;> omega
                    refine g_ald0 eX12_run_406 ?_
                    refine g_ild4 eX12_run_407 ?_
                    refine g_ald0 eX12_run_409 ?_
                    refine g_ild4 eX12_run_410 ?_
                    refine g_ild7 eX12_run_412 ?_
                    refine g_callSi (w_opened _ _) cs_X12_342 eX12_run_414 ⟨Nat.le_of_ble_eq_true rfl, Nat.le_of_ble_eq_true rfl⟩ rfl rfl (Nat.le_of_ble_eq_true rfl) (fun z u h => ?_)
                    obtain ⟨rfl, rfl⟩ := h
                    generalize -30 - s1.1 41 (4 * q + a) = zo at eo ⊢
                    refine g_ild3 eX12_run_417 ?_
                    refine g_sipush (v := 1000) (by decide) eX12_run_418 ?_
                    refine g_iadd eX12_run_421 ?_
                    refine g_ild6 eX12_run_422 ?_
                    refine g_iadd eX12_run_424 ?_
                    rw [in1000 seed a]
                    refine g_callVl (ci := 11) (w_freshOf u i (by omega) hou (by rw [hbu]; exact x5) _ _ (by rw [eo]; exact hm9)) rfl (Nat.le_of_ble_eq_true rfl) (Nat.le_of_ble_eq_true rfl) rfl cv_X12_418 eX12_run_425 ⟨Nat.le_of_ble_eq_true rfl, Nat.le_of_ble_eq_true rfl⟩ rfl rfl (Nat.le_of_ble_eq_true rfl) (fun zc u h => ?_)
                    obtain ⟨rfl, hzc⟩ := h
                    refine g_ald0 eX12_run_428 ?_
                    refine g_ild4 eX12_run_429 ?_
                    refine g_callVl (ci := 11) (w_freshBound u i (by omega) hou (by rw [hbu]; exact x5)) rfl (Nat.le_of_ble_eq_true rfl) (Nat.le_of_ble_eq_true rfl) rfl cv_X12_422 eX12_run_431 ⟨Nat.le_of_ble_eq_true rfl, Nat.le_of_ble_eq_true rfl⟩ rfl rfl (Nat.le_of_ble_eq_true rfl) (fun zb u h => ?_)
                    obtain ⟨rfl, hzb⟩ := h
                    refine g_bipush (v := 7) (by decide) eX12_run_434 ?_
                    refine g_callVi (ci := 11) (w_seals _ (n + a) s3k (by omega) (nI i) _ _ _) rfl (Nat.le_of_ble_eq_true rfl) (Nat.le_of_ble_eq_true rfl) rfl cv_X12_425 eX12_run_436 ⟨Nat.le_of_ble_eq_true rfl, Nat.le_of_ble_eq_true rfl⟩ rfl rfl (Nat.le_of_ble_eq_true rfl) (fun z u2 h => ?_)
                    obtain ⟨hz, b9, hb9, rfl⟩ := h
                    refine g_goto eX12_run_439 ?_
                    refine last z _ hz ⟨u, hsel, _, _, ?_, ?_, rfl⟩ none y8
                    · unfold outC
                      rw [if_pos hU0.2, hzc, s1k 63 (by decide) (by decide) (by decide), s1k 64 (by decide) (by decide) (by decide), s1k 65 (by decide) (by decide) (by decide), hbu, eo]
                      rfl
                    · unfold outB
                      have hFF : fBm u i = fBm s1 i := by
                        unfold fBm
                        rw [s1k 65 (by decide) (by decide) (by decide), hbu]
                        rfl
                      rw [if_pos hU0.2, hb9, hzb.trans hFF]
                      omega
            have loop : ∀ (f9 a : Nat) (s0 : (Nat → Int) × (Nat → Int)) (f g : Nat → Int64) (c d : Int64) (y6 y7 : Option Value), a + f9 = W q → RR a = some s0 → (∀ j, j < a → (f j).toInt = s0.1 j ∧ (g j).toInt = s0.2 j) → (∀ j, j < a → (0 ≤ s0.1 j ∧ s0.1 j < 100000000) ∧ 0 ≤ s0.2 j ∧ s0.2 j ≤ 1000000) → G xp l xe (rmd (4)) xs xm xa xb xme xc D cy xad xA (YX12_run.2.1, YX12_run.1.cls, YX12_run.2.2.1, YX12_run.2.2.2) (Pi (runP s1 np n K A B U W I O (nI q) (nI v) seed)) 136 ([some (.ref 31), some (.int (nI q)), some (.int (nI v)), some (.int seed), some (.int (nI i)), some (.int (nI a)), y6, y7, none]) ([]) (rS s1 f g c d) := by
              intro f9
              induction f9 with
              | zero =>
                intro a s0 f g c d y6 y7 ha hs hfg hrg
                refine g_ild5 eX12_run_136 ?_
                refine g_ald0 eX12_run_138 ?_
                refine g_getR (ci := 11) (j := 24) rfl (Nat.le_of_ble_eq_true rfl) (Nat.le_of_ble_eq_true rfl) (Nat.le_of_ble_eq_true rfl) rfl rfl fl_X12_46 eX12_run_139 ?_
                refine g_ild1 eX12_run_142 ?_
                refine g_iald rfl (Nat.le_of_ble_eq_true rfl) (vp_in_nI (n := q) (N := 5) (by omega) (by decide)) eX12_run_143 ?_
                rw [hc, rS_1, p1]
                have haW : a = W q := by omega
                refine g_icmp_ge eX12_run_144 (fun h144 => ?_) (fun h144 => ?_)
                · refine g_ald0 eX12_run_365 ?_
                  refine g_getI (ci := 11) (j := 58) rfl (Nat.le_of_ble_eq_true rfl) (Nat.le_of_ble_eq_true rfl) (Nat.le_of_ble_eq_true rfl) rfl fl_X12_408 eX12_run_366 ?_
                  rw [rS_1, x3]
                  refine g_ist5 rfl (Nat.le_of_ble_eq_true rfl) eX12_run_369 ?_
                  refine g_iconst (v := 0) (by decide) eX12_run_371 ?_
                  refine g_ist6 rfl (Nat.le_of_ble_eq_true rfl) eX12_run_372 ?_
                  subst haW
                  exact outs s0 f g c d hs hfg hrg (O q) 0 _ _ _ (by omega) rfl
                · exact absurd (nI_le (by omega) (by omega)) h144
              | succ f9 ih =>
                intro a s0 f g c d y6 y7 ha hs hfg hrg
                obtain ⟨k1, k2, k3⟩ := p7 a (by omega)
                obtain ⟨w1, w2, w3, w4, w5, w6⟩ := p9 a (by omega)
                have hcw : (nI (40 * q + a)).toNatClampNeg = 40 * q + a := nI_clamp (by omega)
                have hca : (nI a).toNatClampNeg = a := nI_clamp (by omega)
                have hg6 : ∀ j, j < I q → 0 ≤ ((rS s1 f g c d).1 72 j).toInt ∧ ((rS s1 f g c d).1 72 j).toInt < 60 := fun j hj => by
                  have h9 := hg60 j hj
                  rw [rS_1]
                  omega
                have hrr : ∀ z : Int, cOK a (I q) z → (0 ≤ s0.1 z.toNat ∧ s0.1 z.toNat < 100000000) ∧ 0 ≤ s0.2 z.toNat ∧ s0.2 z.toNat ≤ 1000000 := fun z hz => by
                  unfold cOK at hz
                  by_cases h9 : z.toNat < 40
                  · exact hrg _ (by omega)
                  · exact hrin hs (by omega) _ (by omega) (by omega)
                have vA := hsC f g c d hs (by omega) hfg _ w3
                have rA := hrr _ w3
                have step := rnF_step (by rw [← hR] at hs; exact hs)
                rw [hR] at step
                have tail : ∀ (c d : Int64) (y6 y7 : Option Value), c.toInt = wkC (K q) (A q) (B q) (mP s1 i * (s1.1 64 i).toInt) s0.1 a → d.toInt = wkB (K q) (A q) (B q) s0.2 a → G xp l xe (rmd (4)) xs xm xa xb xme xc D cy xad xA (YX12_run.2.1, YX12_run.1.cls, YX12_run.2.2.1, YX12_run.2.2.2) (Pi (runP s1 np n K A B U W I O (nI q) (nI v) seed)) 256 ([some (.ref 31), some (.int (nI q)), some (.int (nI v)), some (.int seed), some (.int (nI i)), some (.int (nI a)), y6, y7, none]) ([]) (rS s1 f g c d) := by
                  intro c d y6 y7 hcC hdB
                  have hdr := bound_rng (K q a) (s0.2 (A q a).toNat) (if K q a = 4 ∨ K q a = 5 then B q a else s0.2 (B q a).toNat) rA.2.1
                  have hcr := workF_rng (K q a) (s0.1 (A q a).toNat) (if K q a = 4 ∨ K q a = 5 then B q a else s0.1 (B q a).toNat) (m := mP s1 i * (s1.1 64 i).toInt) (Int.lt_of_lt_of_le (by decide) hpq2.1)
                  change 0 ≤ wkB (K q) (A q) (B q) s0.2 a ∧ wkB (K q) (A q) (B q) s0.2 a ≤ 1000000 at hdr
                  change 0 ≤ wkC (K q) (A q) (B q) (mP s1 i * (s1.1 64 i).toInt) s0.1 a ∧ wkC (K q) (A q) (B q) (mP s1 i * (s1.1 64 i).toInt) s0.1 a < mP s1 i * (s1.1 64 i).toInt at hcr
                  have hcr2 : 0 ≤ wkC (K q) (A q) (B q) (mP s1 i * (s1.1 64 i).toInt) s0.1 a ∧ wkC (K q) (A q) (B q) (mP s1 i * (s1.1 64 i).toInt) s0.1 a < 100000000 := ⟨hcr.1, Int.lt_of_lt_of_le hcr.2 (Int.le_trans hpq2.2 (by decide))⟩
                  generalize hwC : wkC (K q) (A q) (B q) (mP s1 i * (s1.1 64 i).toInt) s0.1 a = zC at hcC hcr2 step
                  generalize hwB : wkB (K q) (A q) (B q) s0.2 a = zB at hdB hdr step
                  clear hcr
                  refine g_ald0 eX12_run_256 ?_
                  refine g_getR (ci := 11) (j := 68) rfl (Nat.le_of_ble_eq_true rfl) (Nat.le_of_ble_eq_true rfl) (Nat.le_of_ble_eq_true rfl) rfl rfl fl_X12_140 eX12_run_257 ?_
                  refine g_ild5 eX12_run_260 ?_
                  refine g_ald0 eX12_run_262 ?_
                  refine g_getL (ci := 11) (j := 63) rfl (Nat.le_of_ble_eq_true rfl) (Nat.le_of_ble_eq_true rfl) (Nat.le_of_ble_eq_true rfl) rfl fl_X12_429 eX12_run_263 ?_
                  rw [rS_C]
                  refine g_last rfl (Nat.le_of_ble_eq_true rfl) (vp_in_nI (n := a) (N := 40) (by omega) (by decide)) eX12_run_266 ?_
                  rw [hca, rS_pf]
                  refine g_ald0 eX12_run_267 ?_
                  refine g_getR (ci := 11) (j := 69) rfl (Nat.le_of_ble_eq_true rfl) (Nat.le_of_ble_eq_true rfl) (Nat.le_of_ble_eq_true rfl) rfl rfl fl_X12_143 eX12_run_268 ?_
                  refine g_ild5 eX12_run_271 ?_
                  refine g_ald0 eX12_run_273 ?_
                  refine g_getL (ci := 11) (j := 64) rfl (Nat.le_of_ble_eq_true rfl) (Nat.le_of_ble_eq_true rfl) (Nat.le_of_ble_eq_true rfl) rfl fl_X12_433 eX12_run_274 ?_
                  rw [rS_B]
                  refine g_last rfl (Nat.le_of_ble_eq_true rfl) (vp_in_nI (n := a) (N := 40) (by omega) (by decide)) eX12_run_277 ?_
                  rw [hca, rS_pg]
                  have next : ∀ (f2 g2 : Nat → Int64) (xC xB : Int) (hst : RR (a + 1) = some (putN s0.1 a xC, putN s0.2 a xB)), (∀ j, j < a → f2 j = f j ∧ g2 j = g j) → (f2 a).toInt = xC → (g2 a).toInt = xB → (0 ≤ xC ∧ xC < 100000000) → (0 ≤ xB ∧ xB ≤ 1000000) → G xp l xe (rmd (4)) xs xm xa xb xme xc D cy xad xA (YX12_run.2.1, YX12_run.1.cls, YX12_run.2.2.1, YX12_run.2.2.2) (Pi (runP s1 np n K A B U W I O (nI q) (nI v) seed)) 359 ([some (.ref 31), some (.int (nI q)), some (.int (nI v)), some (.int seed), some (.int (nI i)), some (.int (nI a)), y6, y7, none]) ([]) (rS s1 f2 g2 c d) := by
                    intro f2 g2 xC xB hst h1 h2 h3 h4 h5
                    refine g_inc5 rfl (Nat.le_of_ble_eq_true rfl) rfl eX12_run_359 ?_
                    refine g_goto eX12_run_362 ?_
                    rw [inc1]
                    refine ih (a + 1) _ f2 g2 c d _ _ (by omega) hst (fun j hj => ?_) (fun j hj => ?_)
                    · show _ = putN s0.1 a xC j ∧ _ = putN s0.2 a xB j
                      unfold putN
                      by_cases hja : j = a
                      · subst hja
                        rw [if_pos rfl, if_pos rfl]
                        exact ⟨h2, h3⟩
                      · rw [if_neg hja, if_neg hja, (h1 j (by omega)).1, (h1 j (by omega)).2]
                        exact hfg j (by omega)
                    · show (0 ≤ putN s0.1 a xC j ∧ putN s0.1 a xC j < 100000000) ∧ 0 ≤ putN s0.2 a xB j ∧ putN s0.2 a xB j ≤ 1000000
                      unfold putN
                      by_cases hja : j = a
                      · rw [if_pos hja, if_pos hja]
                        exact ⟨h4, h5⟩
                      · rw [if_neg hja, if_neg hja]
                        exact hrg j (by omega)
                  have plainly : ¬ laidF (v : Int) a → G xp l xe (rmd (4)) xs xm xa xb xme xc D cy xad xA (YX12_run.2.1, YX12_run.1.cls, YX12_run.2.2.1, YX12_run.2.2.2) (Pi (runP s1 np n K A B U W I O (nI q) (nI v) seed)) 359 ([some (.ref 31), some (.int (nI q)), some (.int (nI v)), some (.int seed), some (.int (nI i)), some (.int (nI a)), y6, y7, none]) ([]) (rS s1 (vp_updL f a c) (vp_updL g a d) c d) := by
                    intro hl
                    rw [if_neg hl] at step
                    refine next _ _ _ _ step (fun j hj => ?_) ?_ ?_ hcr2 hdr
                    · unfold vp_updL; rw [if_neg (by omega), if_neg (by omega)]; exact ⟨rfl, rfl⟩
                    · unfold vp_updL; rw [if_pos rfl]; exact hcC
                    · unfold vp_updL; rw [if_pos rfl]; exact hdB
                  refine g_ild5 eX12_run_278 ?_
                  refine g_bipush (v := 11) (by decide) eX12_run_280 ?_
                  refine g_icmp_gt eX12_run_282 (fun h282 => ?_) (fun h282 => ?_)
                  · simp only [fa_lt, Int32.reduceToInt] at h282
                    rw [nI_toInt (by omega)] at h282
                    exact plainly (fun h => by have := h.1; omega)
                  · simp only [fa_lt, Int32.reduceToInt] at h282
                    rw [nI_toInt (by omega)] at h282
                    have e1 := shr_pow (nI v) (m0 := a) (by omega)
                    rw [htv] at e1
                    have h9 : 0 ≤ (nI v >>> (nI a &&& 31)).toInt := by rw [e1]; exact Int.ediv_nonneg (by omega) (Int.le_of_lt (Int.pow_pos (by decide)))
                    have e2 := bit0 _ h9
                    rw [e1] at e2
                    have hm2 : (v : Int) / 2 ^ a % 2 = 0 ∨ (v : Int) / 2 ^ a % 2 = 1 := by omega
                    refine g_ild2 eX12_run_285 ?_
                    refine g_ild5 eX12_run_286 ?_
                    refine g_ishr eX12_run_288 ?_
                    refine g_iconst (v := 1) (by decide) eX12_run_289 ?_
                    refine g_iand eX12_run_290 ?_
                    refine g_if_ne eX12_run_291 (fun h291 => ?_) (fun h291 => ?_)
                    · rw [fa_eq, e2, z32] at h291
                      have hl : laidF (v : Int) a := ⟨by omega, by omega⟩
                      rw [if_pos hl] at step
                      refine g_ald0 eX12_run_297 ?_
                      refine g_ild4 eX12_run_298 ?_
                      refine g_ald0 eX12_run_300 ?_
                      refine g_getL (ci := 11) (j := 64) rfl (Nat.le_of_ble_eq_true rfl) (Nat.le_of_ble_eq_true rfl) (Nat.le_of_ble_eq_true rfl) rfl fl_X12_433 eX12_run_301 ?_
                      rw [rS_B]
                      refine g_callVi (ci := 11) (w_isDrowned (rS s1 (vp_updL f a c) (vp_updL g a d) c d) i (by omega) d (by rw [hdB]; exact hdr)) rfl (Nat.le_of_ble_eq_true rfl) (Nat.le_of_ble_eq_true rfl) rfl cv_X12_446 eX12_run_304 ⟨Nat.le_of_ble_eq_true rfl, Nat.le_of_ble_eq_true rfl⟩ rfl rfl (Nat.le_of_ble_eq_true rfl) (fun zd u2 h => ?_)
                      obtain ⟨rfl, rfl⟩ := h
                      rw [rS_1, hdB]
                      refine g_if_eq eX12_run_307 (fun h307 => ?_) (fun h307 => ?_)
                      · rw [b2_eq0] at h307
                        rw [if_neg h307] at step
                        have hnm := nmod_rng zC (mP s1 i) x5
                        refine g_ald0 eX12_run_313 ?_
                        refine g_getR (ci := 11) (j := 68) rfl (Nat.le_of_ble_eq_true rfl) (Nat.le_of_ble_eq_true rfl) (Nat.le_of_ble_eq_true rfl) rfl rfl fl_X12_140 eX12_run_314 ?_
                        refine g_ild5 eX12_run_317 ?_
                        refine g_ald0 eX12_run_319 ?_
                        refine g_ild4 eX12_run_320 ?_
                        refine g_ald0 eX12_run_322 ?_
                        refine g_ild4 eX12_run_323 ?_
                        refine g_ald0 eX12_run_325 ?_
                        refine g_getL (ci := 11) (j := 63) rfl (Nat.le_of_ble_eq_true rfl) (Nat.le_of_ble_eq_true rfl) (Nat.le_of_ble_eq_true rfl) rfl fl_X12_429 eX12_run_326 ?_
                        rw [rS_C]
                        refine g_callVi (ci := 11) (w_opensTo (rS s1 (vp_updL f a c) (vp_updL g a d) c d) i (by omega) ho hodd x5 c (by rw [hcC]; exact hcr2.1)) rfl (Nat.le_of_ble_eq_true rfl) (Nat.le_of_ble_eq_true rfl) rfl cv_X12_450 eX12_run_329 ⟨Nat.le_of_ble_eq_true rfl, Nat.le_of_ble_eq_true rfl⟩ rfl rfl (Nat.le_of_ble_eq_true rfl) (fun zo u2 h => ?_)
                        obtain ⟨rfl, hzo⟩ := h
                        rw [rS_1, hcC] at hzo
                        refine g_ild3 eX12_run_332 ?_
                        refine g_bipush (v := 10) (by decide) eX12_run_333 ?_
                        refine g_ild5 eX12_run_335 ?_
                        refine g_imul eX12_run_337 ?_
                        refine g_iadd eX12_run_338 ?_
                        rw [show (10 : Int32) * nI a = nI (10 * a) from pk_mul 10 a]
                        refine g_callVl (ci := 11) (w_freshOf (rS s1 (vp_updL f a c) (vp_updL g a d) c d) i (by omega) ho x5 zo _ (by rw [hzo]; exact hnm)) rfl (Nat.le_of_ble_eq_true rfl) (Nat.le_of_ble_eq_true rfl) rfl cv_X12_418 eX12_run_339 ⟨Nat.le_of_ble_eq_true rfl, Nat.le_of_ble_eq_true rfl⟩ rfl rfl (Nat.le_of_ble_eq_true rfl) (fun zc u2 h => ?_)
                        obtain ⟨rfl, hzc⟩ := h
                        rw [rS_1, hzo] at hzc
                        refine g_last rfl (Nat.le_of_ble_eq_true rfl) (vp_in_nI (n := a) (N := 40) (by omega) (by decide)) eX12_run_342 ?_
                        rw [hca, rS_pf]
                        refine g_ald0 eX12_run_343 ?_
                        refine g_getR (ci := 11) (j := 69) rfl (Nat.le_of_ble_eq_true rfl) (Nat.le_of_ble_eq_true rfl) (Nat.le_of_ble_eq_true rfl) rfl rfl fl_X12_143 eX12_run_344 ?_
                        refine g_ild5 eX12_run_347 ?_
                        refine g_ald0 eX12_run_349 ?_
                        refine g_ild4 eX12_run_350 ?_
                        refine g_callVl (ci := 11) (w_freshBound (rS s1 (vp_updL (vp_updL f a c) a zc) (vp_updL g a d) c d) i (by omega) ho x5) rfl (Nat.le_of_ble_eq_true rfl) (Nat.le_of_ble_eq_true rfl) rfl cv_X12_422 eX12_run_352 ⟨Nat.le_of_ble_eq_true rfl, Nat.le_of_ble_eq_true rfl⟩ rfl rfl (Nat.le_of_ble_eq_true rfl) (fun zb u2 h => ?_)
                        obtain ⟨rfl, hzb⟩ := h
                        have hzb2 : zb.toInt = fBm s1 i := hzb
                        clear hzb
                        refine g_callSl (w_held _ zb) cs_X12_411 eX12_run_355 ⟨Nat.le_of_ble_eq_true rfl, Nat.le_of_ble_eq_true rfl⟩ rfl rfl (Nat.le_of_ble_eq_true rfl) (fun zh u2 h => ?_)
                        obtain ⟨rfl, hzh⟩ := h
                        rw [hzb2] at hzh
                        have hzh2 : zh.toInt = fBm s1 i := by
                          rw [hzh]
                          generalize fBm s1 i = F at hF
                          omega
                        refine g_last rfl (Nat.le_of_ble_eq_true rfl) (vp_in_nI (n := a) (N := 40) (by omega) (by decide)) eX12_run_358 ?_
                        rw [hca, rS_pg]
                        refine next _ _ _ _ step (fun j hj => ?_) ?_ ?_ ?_ hF
                        · unfold vp_updL; rw [if_neg (by omega), if_neg (by omega), if_neg (by omega), if_neg (by omega)]; exact ⟨rfl, rfl⟩
                        · unfold vp_updL; rw [if_pos rfl]; exact hzc
                        · unfold vp_updL; rw [if_pos rfl]; exact hzh2
                        · have h8 := maskF_rng (mP s1 i) (s1.1 64 i).toInt (s1.1 31 17).toInt (noiseF zC (mP s1 i) % (s1.1 31 17).toInt) (lotF (seed + nI (10 * a)) 0 (s1.1 64 i).toInt) (lotF (seed + nI (10 * a)) 1 (2 * (s1.1 65 i).toInt + 1) - (s1.1 65 i).toInt) (Int.lt_of_lt_of_le (by decide) hpq2.1)
                          exact ⟨h8.1, Int.lt_of_lt_of_le h8.2 (Int.le_trans hpq2.2 (by decide))⟩
                      · rw [b2_ne0] at h307
                        rw [if_pos h307] at step
                        refine g_bipush (v := (-2)) (by decide) eX12_run_310 ?_
                        refine g_iret rfl eX12_run_312 ⟨_, rfl, ?_⟩
                        try dsimp only
                        refine ⟨fun _ => ?_, fun h => absurd hok h⟩
                        have hnn : RR (W q) = none := by
                          rw [← hR] at step ⊢
                          have h9 := rnF_none step f9
                          rw [show a + 1 + f9 = W q by omega] at h9
                          exact h9
                        rw [hmr, hnn]
                        exact ⟨rfl, _, _, c, d, rfl⟩
                    · rw [fa_eq, e2, z32] at h291
                      refine g_goto eX12_run_294 ?_
                      exact plainly (fun h => by have := h.2; omega)
                refine g_ild5 eX12_run_136 ?_
                refine g_ald0 eX12_run_138 ?_
                refine g_getR (ci := 11) (j := 24) rfl (Nat.le_of_ble_eq_true rfl) (Nat.le_of_ble_eq_true rfl) (Nat.le_of_ble_eq_true rfl) rfl rfl fl_X12_46 eX12_run_139 ?_
                refine g_ild1 eX12_run_142 ?_
                refine g_iald rfl (Nat.le_of_ble_eq_true rfl) (vp_in_nI (n := q) (N := 5) (by omega) (by decide)) eX12_run_143 ?_
                rw [hc, rS_1, p1]
                refine g_icmp_ge eX12_run_144 (fun h144 => ?_) (fun h144 => ?_)
                · exact absurd h144 (nI_ge (by omega) (by omega))
                · refine g_bipush (v := 40) (by decide) eX12_run_147 ?_
                  refine g_ild1 eX12_run_149 ?_
                  refine g_imul eX12_run_150 ?_
                  refine g_ild5 eX12_run_151 ?_
                  refine g_iadd eX12_run_153 ?_
                  rw [ix40 (by omega) (by omega)]
                  refine g_ist6 rfl (Nat.le_of_ble_eq_true rfl) eX12_run_154 ?_
                  refine g_ald0 eX12_run_156 ?_
                  refine g_getR (ci := 11) (j := 25) rfl (Nat.le_of_ble_eq_true rfl) (Nat.le_of_ble_eq_true rfl) (Nat.le_of_ble_eq_true rfl) rfl rfl fl_X12_49 eX12_run_157 ?_
                  refine g_ild6 eX12_run_160 ?_
                  refine g_iald rfl (Nat.le_of_ble_eq_true rfl) (vp_in_nI (n := 40 * q + a) (N := 200) (by omega) (by decide)) eX12_run_162 ?_
                  refine g_iconst (v := 4) (by decide) eX12_run_163 ?_
                  rw [hcw, rS_1]
                  refine g_icmp_ge eX12_run_164 (fun h164 => ?_) (fun h164 => ?_)
                  · simp only [fa_le, Int32.reduceToInt] at h164
                    rw [k1] at h164
                    have hK45 : K q a = 4 ∨ K q a = 5 := by omega
                    rw [if_pos hK45] at k3
                    have hBr : -13 ≤ B q a ∧ B q a ≤ 13 := by
                      by_cases h4 : K q a = 4
                      · have := w5 h4; omega
                      · have := w6 (by omega); omega
                    refine g_iconst (v := 0) (by decide) eX12_run_171 ?_
                    refine g_ist7 rfl (Nat.le_of_ble_eq_true rfl) eX12_run_172 ?_
                    refine g_ald0 eX12_run_174 ?_
                    refine g_ald0 eX12_run_175 ?_
                    refine g_getR (ci := 11) (j := 25) rfl (Nat.le_of_ble_eq_true rfl) (Nat.le_of_ble_eq_true rfl) (Nat.le_of_ble_eq_true rfl) rfl rfl fl_X12_49 eX12_run_176 ?_
                    refine g_ild6 eX12_run_179 ?_
                    refine g_iald rfl (Nat.le_of_ble_eq_true rfl) (vp_in_nI (n := 40 * q + a) (N := 200) (by omega) (by decide)) eX12_run_181 ?_
                    refine g_ild4 eX12_run_182 ?_
                    refine g_ald0 eX12_run_184 ?_
                    refine g_ald0 eX12_run_185 ?_
                    refine g_getR (ci := 11) (j := 26) rfl (Nat.le_of_ble_eq_true rfl) (Nat.le_of_ble_eq_true rfl) (Nat.le_of_ble_eq_true rfl) rfl rfl fl_X12_52 eX12_run_186 ?_
                    refine g_ild6 eX12_run_189 ?_
                    refine g_iald rfl (Nat.le_of_ble_eq_true rfl) (vp_in_nI (n := 40 * q + a) (N := 200) (by omega) (by decide)) eX12_run_191 ?_
                    rw [hcw, rS_1]
                    refine g_callVl (ci := 11) (w_valueC (rS s1 f g c d) (by omega) p5 hg6 _ w3 _ k2) rfl (Nat.le_of_ble_eq_true rfl) (Nat.le_of_ble_eq_true rfl) rfl cv_X12_474 eX12_run_192 ⟨Nat.le_of_ble_eq_true rfl, Nat.le_of_ble_eq_true rfl⟩ rfl rfl (Nat.le_of_ble_eq_true rfl) (fun za u2 h => ?_)
                    obtain ⟨rfl, rfl⟩ := h
                    refine g_ald0 eX12_run_195 ?_
                    refine g_ald0 eX12_run_196 ?_
                    refine g_getR (ci := 11) (j := 26) rfl (Nat.le_of_ble_eq_true rfl) (Nat.le_of_ble_eq_true rfl) (Nat.le_of_ble_eq_true rfl) rfl rfl fl_X12_52 eX12_run_197 ?_
                    refine g_ild6 eX12_run_200 ?_
                    refine g_iald rfl (Nat.le_of_ble_eq_true rfl) (vp_in_nI (n := 40 * q + a) (N := 200) (by omega) (by decide)) eX12_run_202 ?_
                    rw [hcw, rS_1]
                    refine g_callVl (ci := 11) (w_valueBound (rS s1 f g c d) (by omega) p5 hg6 _ w3 _ k2) rfl (Nat.le_of_ble_eq_true rfl) (Nat.le_of_ble_eq_true rfl) rfl cv_X12_477 eX12_run_203 ⟨Nat.le_of_ble_eq_true rfl, Nat.le_of_ble_eq_true rfl⟩ rfl rfl (Nat.le_of_ble_eq_true rfl) (fun zb u2 h => ?_)
                    obtain ⟨rfl, rfl⟩ := h
                    refine g_ild7 eX12_run_206 ?_
                    refine g_if_eq eX12_run_208 (fun h208 => ?_) (fun h208 => ?_)
                    · refine g_ald0 eX12_run_225 ?_
                      refine g_getR (ci := 11) (j := 27) rfl (Nat.le_of_ble_eq_true rfl) (Nat.le_of_ble_eq_true rfl) (Nat.le_of_ble_eq_true rfl) rfl rfl fl_X12_55 eX12_run_226 ?_
                      refine g_ild6 eX12_run_229 ?_
                      refine g_iald rfl (Nat.le_of_ble_eq_true rfl) (vp_in_nI (n := 40 * q + a) (N := 200) (by omega) (by decide)) eX12_run_231 ?_
                      rw [hcw, rS_1]
                      refine g_i2l eX12_run_232 ?_
                      refine g_ild7 eX12_run_233 ?_
                      refine g_if_eq eX12_run_235 (fun h235 => ?_) (fun h235 => ?_)
                      · refine g_lconst (v := 0) rfl eX12_run_252 ?_
                        refine g_callVv (ci := 11) (w_makes (rS s1 f g c d) _ i (by omega) ho _ _ _ 0 (by rw [k1]; exact ⟨w1, w2⟩) (by rw [vA.1]; exact ⟨Int.le_trans (by decide) rA.1.1, Int.le_of_lt rA.1.2⟩) (by rw [vA.2]; exact rA.2) (by rw [tl, k3]; omega) z6r (by intro h4; rw [tl, k3]; rw [k1] at h4; exact (w5 h4).1)) rfl (Nat.le_of_ble_eq_true rfl) (Nat.le_of_ble_eq_true rfl) rfl cv_X12_439 eX12_run_253 ⟨Nat.le_of_ble_eq_true rfl, Nat.le_of_ble_eq_true rfl⟩ rfl rfl (Nat.le_of_ble_eq_true rfl) (fun u2 h => ?_)
                        obtain ⟨c2, d2, hc2, hd2, rfl⟩ := h
                        rw [rS_mk]
                        refine tail c2 d2 _ _ ?_ ?_
                        · rw [hc2, k1, vA.1, tl, k3]
                          unfold wkC
                          rw [if_pos hK45]
                          rfl
                        · rw [hd2, k1, vA.2, tl, k3, if_pos hK45]
                          unfold wkB
                          rw [if_pos hK45]
                      · exact absurd rfl h235
                    · exact absurd rfl h208
                  · simp only [fa_le, Int32.reduceToInt] at h164
                    rw [k1] at h164
                    have hK45 : ¬ (K q a = 4 ∨ K q a = 5) := by omega
                    rw [if_neg hK45] at k3
                    have wB := w4 (by omega)
                    have vB := hsC f g c d hs (by omega) hfg _ wB
                    have rB := hrr _ wB
                    refine g_iconst (v := 1) (by decide) eX12_run_167 ?_
                    refine g_goto eX12_run_168 ?_
                    refine g_ist7 rfl (Nat.le_of_ble_eq_true rfl) eX12_run_172 ?_
                    refine g_ald0 eX12_run_174 ?_
                    refine g_ald0 eX12_run_175 ?_
                    refine g_getR (ci := 11) (j := 25) rfl (Nat.le_of_ble_eq_true rfl) (Nat.le_of_ble_eq_true rfl) (Nat.le_of_ble_eq_true rfl) rfl rfl fl_X12_49 eX12_run_176 ?_
                    refine g_ild6 eX12_run_179 ?_
                    refine g_iald rfl (Nat.le_of_ble_eq_true rfl) (vp_in_nI (n := 40 * q + a) (N := 200) (by omega) (by decide)) eX12_run_181 ?_
                    refine g_ild4 eX12_run_182 ?_
                    refine g_ald0 eX12_run_184 ?_
                    refine g_ald0 eX12_run_185 ?_
                    refine g_getR (ci := 11) (j := 26) rfl (Nat.le_of_ble_eq_true rfl) (Nat.le_of_ble_eq_true rfl) (Nat.le_of_ble_eq_true rfl) rfl rfl fl_X12_52 eX12_run_186 ?_
                    refine g_ild6 eX12_run_189 ?_
                    refine g_iald rfl (Nat.le_of_ble_eq_true rfl) (vp_in_nI (n := 40 * q + a) (N := 200) (by omega) (by decide)) eX12_run_191 ?_
                    rw [hcw, rS_1]
                    refine g_callVl (ci := 11) (w_valueC (rS s1 f g c d) (by omega) p5 hg6 _ w3 _ k2) rfl (Nat.le_of_ble_eq_true rfl) (Nat.le_of_ble_eq_true rfl) rfl cv_X12_474 eX12_run_192 ⟨Nat.le_of_ble_eq_true rfl, Nat.le_of_ble_eq_true rfl⟩ rfl rfl (Nat.le_of_ble_eq_true rfl) (fun za u2 h => ?_)
                    obtain ⟨rfl, rfl⟩ := h
                    refine g_ald0 eX12_run_195 ?_
                    refine g_ald0 eX12_run_196 ?_
                    refine g_getR (ci := 11) (j := 26) rfl (Nat.le_of_ble_eq_true rfl) (Nat.le_of_ble_eq_true rfl) (Nat.le_of_ble_eq_true rfl) rfl rfl fl_X12_52 eX12_run_197 ?_
                    refine g_ild6 eX12_run_200 ?_
                    refine g_iald rfl (Nat.le_of_ble_eq_true rfl) (vp_in_nI (n := 40 * q + a) (N := 200) (by omega) (by decide)) eX12_run_202 ?_
                    rw [hcw, rS_1]
                    refine g_callVl (ci := 11) (w_valueBound (rS s1 f g c d) (by omega) p5 hg6 _ w3 _ k2) rfl (Nat.le_of_ble_eq_true rfl) (Nat.le_of_ble_eq_true rfl) rfl cv_X12_477 eX12_run_203 ⟨Nat.le_of_ble_eq_true rfl, Nat.le_of_ble_eq_true rfl⟩ rfl rfl (Nat.le_of_ble_eq_true rfl) (fun zb u2 h => ?_)
                    obtain ⟨rfl, rfl⟩ := h
                    refine g_ild7 eX12_run_206 ?_
                    refine g_if_eq eX12_run_208 (fun h208 => ?_) (fun h208 => ?_)
                    · exact absurd h208 (by decide)
                    · refine g_ald0 eX12_run_211 ?_
                      refine g_ald0 eX12_run_212 ?_
                      refine g_getR (ci := 11) (j := 27) rfl (Nat.le_of_ble_eq_true rfl) (Nat.le_of_ble_eq_true rfl) (Nat.le_of_ble_eq_true rfl) rfl rfl fl_X12_55 eX12_run_213 ?_
                      refine g_ild6 eX12_run_216 ?_
                      refine g_iald rfl (Nat.le_of_ble_eq_true rfl) (vp_in_nI (n := 40 * q + a) (N := 200) (by omega) (by decide)) eX12_run_218 ?_
                      rw [hcw, rS_1]
                      refine g_callVl (ci := 11) (w_valueC (rS s1 f g c d) (by omega) p5 hg6 _ wB _ k3) rfl (Nat.le_of_ble_eq_true rfl) (Nat.le_of_ble_eq_true rfl) rfl cv_X12_474 eX12_run_219 ⟨Nat.le_of_ble_eq_true rfl, Nat.le_of_ble_eq_true rfl⟩ rfl rfl (Nat.le_of_ble_eq_true rfl) (fun zb2 u2 h => ?_)
                      obtain ⟨rfl, rfl⟩ := h
                      refine g_goto eX12_run_222 ?_
                      refine g_ild7 eX12_run_233 ?_
                      refine g_if_eq eX12_run_235 (fun h235 => ?_) (fun h235 => ?_)
                      · exact absurd h235 (by decide)
                      · refine g_ald0 eX12_run_238 ?_
                        refine g_ald0 eX12_run_239 ?_
                        refine g_getR (ci := 11) (j := 27) rfl (Nat.le_of_ble_eq_true rfl) (Nat.le_of_ble_eq_true rfl) (Nat.le_of_ble_eq_true rfl) rfl rfl fl_X12_55 eX12_run_240 ?_
                        refine g_ild6 eX12_run_243 ?_
                        refine g_iald rfl (Nat.le_of_ble_eq_true rfl) (vp_in_nI (n := 40 * q + a) (N := 200) (by omega) (by decide)) eX12_run_245 ?_
                        rw [hcw, rS_1]
                        refine g_callVl16 (ci := 11) (w_valueBound (rS s1 f g c d) (by omega) p5 hg6 _ wB _ k3) rfl (Nat.le_of_ble_eq_true rfl) (Nat.le_of_ble_eq_true rfl) rfl cv_X12_477 (Nat.le_of_ble_eq_true rfl) eX12_run_246 ⟨Nat.le_of_ble_eq_true rfl, Nat.le_of_ble_eq_true rfl⟩ rfl rfl (Nat.le_of_ble_eq_true rfl) (fun zb3 u2 h => ?_)
                        obtain ⟨rfl, rfl⟩ := h
                        refine g_goto eX12_run_249 ?_
                        refine g_callVv (ci := 11) (w_makes (rS s1 f g c d) _ i (by omega) ho _ _ _ _ (by rw [k1]; exact ⟨w1, w2⟩) (by rw [vA.1]; exact ⟨Int.le_trans (by decide) rA.1.1, Int.le_of_lt rA.1.2⟩) (by rw [vA.2]; exact rA.2) (by rw [vB.1]; exact ⟨Int.le_trans (by decide) rB.1.1, Int.le_of_lt rB.1.2⟩) (by rw [vB.2]; exact rB.2) (by intro h4; rw [vB.1]; exact rB.1.1)) rfl (Nat.le_of_ble_eq_true rfl) (Nat.le_of_ble_eq_true rfl) rfl cv_X12_439 eX12_run_253 ⟨Nat.le_of_ble_eq_true rfl, Nat.le_of_ble_eq_true rfl⟩ rfl rfl (Nat.le_of_ble_eq_true rfl) (fun u2 h => ?_)
                        obtain ⟨c2, d2, hc2, hd2, rfl⟩ := h
                        rw [rS_mk]
                        refine tail c2 d2 _ _ ?_ ?_
                        · rw [hc2, k1, vA.1, vB.1]
                          unfold wkC
                          rw [if_neg hK45]
                          rfl
                        · rw [hd2, k1, vA.2, if_neg hK45, vB.2]
                          unfold wkB
                          rw [if_neg hK45]
            refine g_iconst (v := 0) (by decide) eX12_run_133 ?_
            refine g_ist5 rfl (Nat.le_of_ble_eq_true rfl) eX12_run_134 ?_
            have go := loop (W q) 0 (inSl (mcof s1) (mgv s1), inSl (mbof s1) (mgv s1)) (s1.2 73) (s1.2 74) (s1.2 31 63) (s1.2 31 64) none none (by omega) (by rw [← hR]; rfl) (fun j hj => by omega) (fun j hj => by omega)
            rw [rS_same] at go
            exact go
          · refine g_iconst (v := (-1)) (by decide) eX12_run_131 ?_
            refine g_iret rfl eX12_run_132 ⟨_, rfl, ?_⟩
            try dsimp only
            refine ⟨fun h => absurd ?_ h128, fun _ => ⟨rfl, rfl⟩⟩
            have h9 := h.2.1.2
            rw [hkey2] at h9
            exact h9
        · simp only [fa_le, Int32.reduceToInt] at hb4
          rw [nI_toInt (by omega)] at hb4
          exact bad (fun h => by have h9 := h.2.2; rw [e] at h9; omega)
end MODK
