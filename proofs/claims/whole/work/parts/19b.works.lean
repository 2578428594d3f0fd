/-! THE MODEL LAYS: minus, times -/
section WORKN
variable {l : Launch} {D : va_G} {cy : Nat → ClassId} {bs pg : Nat}
theorem ld_fr {st u w : St} {X : List WK × Int} {r : Int32} (hf : lyFr pg st u) (h : ldP pg u X r w) : ldP pg st X r w := ⟨hf.trans h.1, h.2⟩
theorem rest_open {z : Int} {r : Int32} (h2 : 2 ≤ bs) (hr : r.toInt = -30 - z % (bs : Int)) : r.toInt = toldF (-1 - z % (bs : Int)) := by
  rcases open_told (bs := bs) z with q | q
  · rw [q]; exact hr
  · omega
theorem sub30 {z : Int32} (h : 0 ≤ z.toInt ∧ z.toInt < 1000) : (-30 - z).toInt = -30 - z.toInt := by
  have e30 : (-30 : Int32).toInt = -30 := rfl
  rw [fb_subI (by rw [e30]; omega) (by rw [e30]; omega), e30]
theorem w_minus (st : St) (hL : lsM bs pg st) {w : List WK} (hw : mwOK pg st w) (hf : st.1 31 50 = 0) (a b : Int) (x y : Int32) (hx : x.toInt = toldF a) (hy : y.toInt = toldF b) (ha : vcd a ∧ -(bs : Int) ≤ a) (hb : vcd b ∧ -(bs : Int) ≤ b) : Mi l D cy 1 YX12_minus [.ref 31, .int x, .int y] st (ldP pg st (miP bs w a b)) := by
  have hna : x.toInt ≤ -30 ↔ a < 0 := by rw [hx]; exact told_neg ha.1
  have hnb : y.toInt ≤ -30 ↔ b < 0 := by rw [hy]; exact told_neg hb.1
  have oa := opnd hx ha.1
  have ob := opnd hy hb.1
  have hbs := hL.1
  have hbi : (nI bs).toInt = (bs : Int) := nI_toInt (by omega)
  have hne : ¬ nI bs = 0 := nI_ne0 (by omega) (by omega)
  have hmod : b < 0 → (-(-1 - b)) % (bs : Int) = if b = -1 then 0 else (bs : Int) - (-1 - b) := by
    intro h
    by_cases e : b = -1
    · rw [if_pos e, e]; rfl
    · rw [if_neg e, ← Int.add_emod_right, Int.emod_eq_of_lt (by omega) (by omega)]
      omega
  refine M.ofG [some (.ref 31), some (.int x), some (.int y), none] (by decide) (Nat.le_of_ble_eq_true rfl) rfl ?_
  intro xp xe xs xm xa xb xme xc xad xA
  have mid : ¬ (a < 0 ∧ b < 0) → G xp l xe (rmd (1)) xs xm xa xb xme xc D cy xad xA (YX12_minus.2.1, YX12_minus.1.cls, YX12_minus.2.2.1, YX12_minus.2.2.2) (Pi (ldP pg st (miP bs w a b))) 37 ([some (.ref 31), some (.int x), some (.int y), none]) ([]) (st) := by
    intro hnn
    refine g_ild2 eX12_minus_37 ?_
    refine g_callSi (w_isOpen st y) cs_X12_339 eX12_minus_38 ⟨Nat.le_of_ble_eq_true rfl, Nat.le_of_ble_eq_true rfl⟩ rfl rfl (Nat.le_of_ble_eq_true rfl) (fun r st h9 => ?_)
    obtain ⟨rfl, rfl⟩ := h9
    refine g_if_eq eX12_minus_41 (fun hb1 => ?_) (fun hb1 => ?_)
    · rw [b2_eq0, hnb] at hb1
      refine g_ild1 eX12_minus_71 ?_
      refine g_callSi (w_isOpen st x) cs_X12_339 eX12_minus_72 ⟨Nat.le_of_ble_eq_true rfl, Nat.le_of_ble_eq_true rfl⟩ rfl rfl (Nat.le_of_ble_eq_true rfl) (fun r st h9 => ?_)
      obtain ⟨rfl, rfl⟩ := h9
      refine g_if_ne eX12_minus_75 (fun hb2 => ?_) (fun hb2 => ?_)
      · rw [b2_ne0, hna] at hb2
        have oa2 : (-30 - x).toInt = -1 - a := by rw [oa, told_open hb2]; omega
        have eM : miP bs w a b = oaP bs (adP w 5 b (-1)).1 (adP w 5 b (-1)).2 (-1 - a) := by unfold miP; rw [if_neg hb1, if_pos hb2]
        have hc : (adP w 5 b (-1)).2 = (w.length : Int) := rfl
        have hl : (adP w 5 b (-1)).1.length = w.length + 1 := by unfold adP; simp
        have hw40 := hw.2.1
        clear oa ob hna hnb
        refine g_ald0 eX12_minus_86 ?_
        refine g_iconst (v := 5) (by decide) eX12_minus_87 ?_
        refine g_ild2 eX12_minus_88 ?_
        refine g_iconst (v := (-1)) (by decide) eX12_minus_89 ?_
        refine g_callVi (ci := 11) (w_adds st hL hw hf 5 b (-1) 5 y (-1) rfl hy rfl) rfl (Nat.le_of_ble_eq_true rfl) (Nat.le_of_ble_eq_true rfl) rfl cv_X12_345 eX12_minus_90 ⟨Nat.le_of_ble_eq_true rfl, Nat.le_of_ble_eq_true rfl⟩ rfl rfl (Nat.le_of_ble_eq_true rfl) (fun r u h => ?_)
        obtain ⟨f1, l1, g1⟩ := h
        refine g_ist3 rfl (Nat.le_of_ble_eq_true rfl) eX12_minus_93 ?_
        refine g_ild1 eX12_minus_94 ?_
        refine g_callSi (w_opened u x) cs_X12_342 eX12_minus_95 ⟨Nat.le_of_ble_eq_true rfl, Nat.le_of_ble_eq_true rfl⟩ rfl rfl (Nat.le_of_ble_eq_true rfl) (fun z u h9 => ?_)
        obtain ⟨rfl, rfl⟩ := h9
        refine g_if_ne eX12_minus_98 (fun hb3 => ?_) (fun hb3 => ?_)
        · have e : ¬ -1 - a = 0 := fun q => hb3 ((fa_eq _ 0).mpr (by rw [oa2, q]; rfl))
          have eM2 : miP bs w a b = adP (adP w 5 b (-1)).1 4 (adP w 5 b (-1)).2 (-1 - a) := by
            rw [eM]
            unfold oaP
            rw [if_neg (by rw [hc]; omega), if_neg e]
          have hl2 : (miP bs w a b).1.length = w.length + 2 := by rw [eM2]; unfold adP; simp
          refine g_ald0 eX12_minus_105 ?_
          refine g_iconst (v := 4) (by decide) eX12_minus_106 ?_
          refine g_ild3 eX12_minus_107 ?_
          refine g_ild1 eX12_minus_108 ?_
          refine g_callSi (w_opened u x) cs_X12_342 eX12_minus_109 ⟨Nat.le_of_ble_eq_true rfl, Nat.le_of_ble_eq_true rfl⟩ rfl rfl (Nat.le_of_ble_eq_true rfl) (fun z u h9 => ?_)
          obtain ⟨rfl, rfl⟩ := h9
          by_cases h40 : w.length < 40
          · obtain ⟨i1, i2, i3⟩ := l1 (by omega)
            refine g_callVi (ci := 11) (w_adds u (lsM_fr hL f1) i2 i1 4 (adP w 5 b (-1)).2 (-1 - a) 4 r _ rfl i3 (by rw [oa2]; rfl)) rfl (Nat.le_of_ble_eq_true rfl) (Nat.le_of_ble_eq_true rfl) rfl cv_X12_345 eX12_minus_112 ⟨Nat.le_of_ble_eq_true rfl, Nat.le_of_ble_eq_true rfl⟩ rfl rfl (Nat.le_of_ble_eq_true rfl) (fun r2 u2 h => ?_)
            refine g_iret rfl eX12_minus_115 ⟨_, rfl, ?_⟩
            try dsimp only
            rw [eM2]
            exact ld_fr f1 h
          · obtain ⟨i1, i2⟩ := g1 (by omega)
            refine g_callVi (ci := 11) (w_addsF u (lsM_fr hL f1) i2 4 r _) rfl (Nat.le_of_ble_eq_true rfl) (Nat.le_of_ble_eq_true rfl) rfl cv_X12_345 eX12_minus_112 ⟨Nat.le_of_ble_eq_true rfl, Nat.le_of_ble_eq_true rfl⟩ rfl rfl (Nat.le_of_ble_eq_true rfl) (fun r2 u2 h => ?_)
            refine g_iret rfl eX12_minus_115 ⟨_, rfl, ?_⟩
            try dsimp only
            exact ⟨f1.trans h.1, fun q => by omega, fun _ => h.2⟩
        · have e : -1 - a = 0 := by rw [← oa2, hb3]; rfl
          refine g_ild3 eX12_minus_101 ?_
          refine g_goto eX12_minus_102 ?_
          refine g_iret rfl eX12_minus_115 ⟨_, rfl, ?_⟩
          try dsimp only
          rw [eM]
          unfold oaP
          rw [if_neg (by rw [hc]; omega), if_pos e]
          exact ⟨f1, l1, g1⟩
      · rw [b2_eq0, hna] at hb2
        refine g_ald0 eX12_minus_78 ?_
        refine g_iconst (v := 2) (by decide) eX12_minus_79 ?_
        refine g_ild1 eX12_minus_80 ?_
        refine g_ild2 eX12_minus_81 ?_
        refine g_callVi (ci := 11) (w_adds st hL hw hf 2 a b 2 x y rfl hx (by rw [hy]; rfl)) rfl (Nat.le_of_ble_eq_true rfl) (Nat.le_of_ble_eq_true rfl) rfl cv_X12_345 eX12_minus_82 ⟨Nat.le_of_ble_eq_true rfl, Nat.le_of_ble_eq_true rfl⟩ rfl rfl (Nat.le_of_ble_eq_true rfl) (fun r u h => ?_)
        refine g_iret rfl eX12_minus_85 ⟨_, rfl, ?_⟩
        try dsimp only
        unfold miP
        rw [if_neg hb1, if_neg hb2]
        exact h
    · rw [b2_ne0, hnb] at hb1
      have ob2 : (-30 - y).toInt = -1 - b := by rw [ob, told_open hb1]; omega
      have han : ¬ a < 0 := fun z => hnn ⟨z, hb1⟩
      have eM : miP bs w a b = oaP bs w a ((-(-1 - b)) % (bs : Int)) := by unfold miP; rw [if_pos hb1]
      rw [hmod hb1] at eM
      clear oa ob hna hnb
      refine g_ild2 eX12_minus_44 ?_
      refine g_callSi (w_opened st y) cs_X12_342 eX12_minus_45 ⟨Nat.le_of_ble_eq_true rfl, Nat.le_of_ble_eq_true rfl⟩ rfl rfl (Nat.le_of_ble_eq_true rfl) (fun z st h9 => ?_)
      obtain ⟨rfl, rfl⟩ := h9
      refine g_if_ne eX12_minus_48 (fun hb3 => ?_) (fun hb3 => ?_)
      · have e : ¬ b = -1 := fun q => hb3 ((fa_eq _ 0).mpr (by rw [ob2, q]; rfl))
        rw [if_neg e] at eM
        refine g_ald0 eX12_minus_55 ?_
        refine g_iconst (v := 4) (by decide) eX12_minus_56 ?_
        refine g_ild1 eX12_minus_57 ?_
        refine g_ald0 eX12_minus_58 ?_
        refine g_getI (ci := 11) (j := 17) rfl (Nat.le_of_ble_eq_true rfl) (Nat.le_of_ble_eq_true rfl) (Nat.le_of_ble_eq_true rfl) rfl fl_X12_174 eX12_minus_59 ?_
        rw [hbs.1]
        refine g_ild2 eX12_minus_62 ?_
        refine g_callSi (w_opened st y) cs_X12_342 eX12_minus_63 ⟨Nat.le_of_ble_eq_true rfl, Nat.le_of_ble_eq_true rfl⟩ rfl rfl (Nat.le_of_ble_eq_true rfl) (fun z st h9 => ?_)
        obtain ⟨rfl, rfl⟩ := h9
        refine g_isub eX12_minus_66 ?_
        have es : (nI bs - (-30 - y)).toInt = (bs : Int) - (-1 - b) := by rw [fb_subI (by rw [ob2, hbi]; omega) (by rw [ob2, hbi]; omega), ob2, hbi]
        generalize nI bs - (-30 - y) = z at es
        refine g_callVi (ci := 11) (w_adds st hL hw hf 4 a ((bs : Int) - (-1 - b)) 4 x z rfl hx (by rw [es]; rfl)) rfl (Nat.le_of_ble_eq_true rfl) (Nat.le_of_ble_eq_true rfl) rfl cv_X12_345 eX12_minus_67 ⟨Nat.le_of_ble_eq_true rfl, Nat.le_of_ble_eq_true rfl⟩ rfl rfl (Nat.le_of_ble_eq_true rfl) (fun r u h => ?_)
        refine g_iret rfl eX12_minus_70 ⟨_, rfl, ?_⟩
        try dsimp only
        rw [eM]
        unfold oaP
        rw [if_neg han, if_neg (by omega)]
        exact h
      · have e : b = -1 := by
          have h8 : (-30 - y).toInt = 0 := by rw [hb3]; rfl
          rw [ob2] at h8
          omega
        rw [if_pos e] at eM
        refine g_ild1 eX12_minus_51 ?_
        refine g_goto eX12_minus_52 ?_
        refine g_iret rfl eX12_minus_70 ⟨_, rfl, ?_⟩
        try dsimp only
        rw [eM]
        unfold oaP
        rw [if_neg han, if_pos rfl]
        exact ld_same hw hf hx
  refine g_ild1 eX12_minus_0 ?_
  refine g_callSi (w_isOpen st x) cs_X12_339 eX12_minus_1 ⟨Nat.le_of_ble_eq_true rfl, Nat.le_of_ble_eq_true rfl⟩ rfl rfl (Nat.le_of_ble_eq_true rfl) (fun r st h9 => ?_)
  obtain ⟨rfl, rfl⟩ := h9
  refine g_if_eq eX12_minus_4 (fun hb1 => ?_) (fun hb1 => ?_)
  · rw [b2_eq0, hna] at hb1
    exact mid (fun q => hb1 q.1)
  · rw [b2_ne0, hna] at hb1
    refine g_ild2 eX12_minus_7 ?_
    refine g_callSi (w_isOpen st y) cs_X12_339 eX12_minus_8 ⟨Nat.le_of_ble_eq_true rfl, Nat.le_of_ble_eq_true rfl⟩ rfl rfl (Nat.le_of_ble_eq_true rfl) (fun r st h9 => ?_)
    obtain ⟨rfl, rfl⟩ := h9
    refine g_if_eq eX12_minus_11 (fun hb2 => ?_) (fun hb2 => ?_)
    · rw [b2_eq0, hnb] at hb2
      exact mid (fun q => hb2 q.2)
    · rw [b2_ne0, hnb] at hb2
      have oa2 : (-30 - x).toInt = -1 - a := by rw [oa, told_open hb1]; omega
      have ob2 : (-30 - y).toInt = -1 - b := by rw [ob, told_open hb2]; omega
      clear oa ob hna hnb mid
      refine g_bipush (v := (-30)) (by decide) eX12_minus_14 ?_
      refine g_ild1 eX12_minus_16 ?_
      refine g_callSi (w_opened st x) cs_X12_342 eX12_minus_17 ⟨Nat.le_of_ble_eq_true rfl, Nat.le_of_ble_eq_true rfl⟩ rfl rfl (Nat.le_of_ble_eq_true rfl) (fun r st h9 => ?_)
      obtain ⟨rfl, rfl⟩ := h9
      refine g_ild2 eX12_minus_20 ?_
      refine g_callSi (w_opened st y) cs_X12_342 eX12_minus_21 ⟨Nat.le_of_ble_eq_true rfl, Nat.le_of_ble_eq_true rfl⟩ rfl rfl (Nat.le_of_ble_eq_true rfl) (fun r st h9 => ?_)
      obtain ⟨rfl, rfl⟩ := h9
      have e1 : (-30 - x - (-30 - y)).toInt = (-1 - a) - (-1 - b) := by rw [fb_subI (by rw [oa2, ob2]; omega) (by rw [oa2, ob2]; omega), oa2, ob2]
      refine g_isub eX12_minus_24 ?_
      refine g_ald0 eX12_minus_25 ?_
      refine g_getI (ci := 11) (j := 17) rfl (Nat.le_of_ble_eq_true rfl) (Nat.le_of_ble_eq_true rfl) (Nat.le_of_ble_eq_true rfl) rfl fl_X12_174 eX12_minus_26 ?_
      rw [hbs.1]
      generalize -30 - x - (-30 - y) = z at e1
      clear oa2 ob2
      have e2 : (z + nI bs).toInt = (-1 - a) - (-1 - b) + bs := by rw [fb_addI (by rw [e1, hbi]; omega) (by rw [e1, hbi]; omega), e1, hbi]
      refine g_iadd eX12_minus_29 ?_
      refine g_ald0 eX12_minus_30 ?_
      refine g_getI (ci := 11) (j := 17) rfl (Nat.le_of_ble_eq_true rfl) (Nat.le_of_ble_eq_true rfl) (Nat.le_of_ble_eq_true rfl) rfl fl_X12_174 eX12_minus_31 ?_
      rw [hbs.1]
      generalize z + nI bs = z2 at e2
      refine g_irem hne eX12_minus_34 ?_
      have er := rem_nn (x := z2) (y := nI bs) (by rw [e2]; omega) (by rw [hbi]; omega)
      rw [e2, hbi] at er
      generalize z2 - z2 / nI bs * nI bs = z3 at er
      have hr := em_rng ((-1 - a) - (-1 - b) + bs) hbs.2.1
      refine g_isub eX12_minus_35 ?_
      refine g_iret rfl eX12_minus_36 ⟨_, rfl, ?_⟩
      try dsimp only
      unfold miP oaP
      rw [if_pos hb2, if_pos hb1]
      refine ld_same hw hf (rest_open hbs.2.1 ?_)
      rw [sub30 (by rw [er]; omega), er, Int.add_emod_right]
      congr 1
      rw [Int.add_emod, Int.emod_emod, ← Int.add_emod]
      rfl
theorem w_times (st : St) (hL : lsM bs pg st) {w : List WK} (hw : mwOK pg st w) (hf : st.1 31 50 = 0) (a b : Int) (x y : Int32) (hx : x.toInt = toldF a) (hy : y.toInt = toldF b) (ha : vcd a ∧ -(bs : Int) ≤ a) (hb : vcd b ∧ -(bs : Int) ≤ b) : Mi l D cy 1 YX12_times [.ref 31, .int x, .int y] st (ldP pg st (muP bs w a b)) := by
  have hna : x.toInt ≤ -30 ↔ a < 0 := by rw [hx]; exact told_neg ha.1
  have hnb : y.toInt ≤ -30 ↔ b < 0 := by rw [hy]; exact told_neg hb.1
  have oa := opnd hx ha.1
  have ob := opnd hy hb.1
  have hbs := hL.1
  have hbi : (nI bs).toInt = (bs : Int) := nI_toInt (by omega)
  have hne : ¬ nI bs = 0 := nI_ne0 (by omega) (by omega)
  refine M.ofG [some (.ref 31), some (.int x), some (.int y), none, none] (by decide) (Nat.le_of_ble_eq_true rfl) rfl ?_
  intro xp xe xs xm xa xb xme xc xad xA
  have one : ∀ (k c : Int) (kI cI : Int32), kI.toInt = k → 0 ≤ k → k < bs → cI.toInt = toldF c → ¬ c < 0 → muP bs w a b = omP bs w c k → G xp l xe (rmd (1)) xs xm xa xb xme xc D cy xad xA (YX12_times.2.1, YX12_times.1.cls, YX12_times.2.2.1, YX12_times.2.2.2) (Pi (ldP pg st (muP bs w a b))) 87 ([some (.ref 31), some (.int x), some (.int y), some (.int kI), some (.int cI)]) ([]) (st) := by
    intro k c kI cI hk hk0 hkb hc hcn hP
    clear hna hnb oa ob
    rw [hP]
    unfold omP
    rw [if_neg hcn]
    refine g_ild3 eX12_times_87 ?_
    refine g_if_ne eX12_times_88 (fun hb1 => ?_) (fun hb1 => ?_)
    · have e : ¬ k = 0 := fun z => hb1 ((fa_eq kI 0).mpr (by rw [hk, z]; rfl))
      refine g_ild3 eX12_times_94 ?_
      refine g_iconst (v := 1) (by decide) eX12_times_95 ?_
      refine g_icmp_ne eX12_times_96 (fun hb2 => ?_) (fun hb2 => ?_)
      · have e1 : ¬ k = 1 := fun z => hb2 ((fa_eq kI 1).mpr (by rw [hk, z]; rfl))
        rw [if_neg (by omega)]
        have go : ∀ z : Int32, z.toInt = (if (bs : Int) - k < k then k - bs else k) → G xp l xe (rmd (1)) xs xm xa xb xme xc D cy xad xA (YX12_times.2.1, YX12_times.1.cls, YX12_times.2.2.1, YX12_times.2.2.2) (Pi (ldP pg st (adP w 5 c (if (bs : Int) - k < k then k - bs else k)))) 128 ([some (.ref 31), some (.int x), some (.int y), some (.int kI), some (.int cI)]) ([.int z, .int cI, .int 5, .ref 31]) (st) := by
          intro z hz
          refine g_callVi (ci := 11) (w_adds st hL hw hf 5 c _ 5 cI z rfl hc (by rw [hz]; rfl)) rfl (Nat.le_of_ble_eq_true rfl) (Nat.le_of_ble_eq_true rfl) rfl cv_X12_345 eX12_times_128 ⟨Nat.le_of_ble_eq_true rfl, Nat.le_of_ble_eq_true rfl⟩ rfl rfl (Nat.le_of_ble_eq_true rfl) (fun r u h => ?_)
          exact g_iret rfl eX12_times_131 ⟨_, rfl, h⟩
        refine g_ald0 eX12_times_104 ?_
        refine g_iconst (v := 5) (by decide) eX12_times_105 ?_
        refine g_ild4 eX12_times_106 ?_
        refine g_ald0 eX12_times_108 ?_
        refine g_getI (ci := 11) (j := 17) rfl (Nat.le_of_ble_eq_true rfl) (Nat.le_of_ble_eq_true rfl) (Nat.le_of_ble_eq_true rfl) rfl fl_X12_174 eX12_times_109 ?_
        rw [hbs.1]
        refine g_ild3 eX12_times_112 ?_
        refine g_isub eX12_times_113 ?_
        refine g_ild3 eX12_times_114 ?_
        have s1 : (nI bs - kI).toInt = (bs : Int) - k := by rw [fb_subI (by rw [hbi, hk]; omega) (by rw [hbi, hk]; omega), hbi, hk]
        have s2 : (kI - nI bs).toInt = k - (bs : Int) := by rw [fb_subI (by rw [hbi, hk]; omega) (by rw [hbi, hk]; omega), hbi, hk]
        refine g_icmp_ge eX12_times_115 (fun hb3 => ?_) (fun hb3 => ?_)
        · rw [fa_le, s1, hk] at hb3
          refine g_ild3 eX12_times_127 ?_
          exact go kI (by rw [if_neg (by omega), hk])
        · rw [fa_le, s1, hk] at hb3
          refine g_ild3 eX12_times_118 ?_
          refine g_ald0 eX12_times_119 ?_
          refine g_getI (ci := 11) (j := 17) rfl (Nat.le_of_ble_eq_true rfl) (Nat.le_of_ble_eq_true rfl) (Nat.le_of_ble_eq_true rfl) rfl fl_X12_174 eX12_times_120 ?_
          rw [hbs.1]
          refine g_isub eX12_times_123 ?_
          refine g_goto eX12_times_124 ?_
          exact go _ (by rw [if_pos (by omega)]; exact s2)
      · have e1 : k = 1 := by rw [← hk, hb2]; rfl
        rw [if_pos (by omega), if_neg (by omega)]
        refine g_ild4 eX12_times_99 ?_
        refine g_goto eX12_times_101 ?_
        exact g_iret rfl eX12_times_131 ⟨_, rfl, (ld_same hw hf hc)⟩
    · have e : k = 0 := by rw [← hk, hb1]; rfl
      rw [if_pos (by omega), if_pos e]
      refine g_bipush (v := (-30)) (by decide) eX12_times_91 ?_
      exact g_iret rfl eX12_times_93 ⟨_, rfl, (ld_same hw hf (show (-30 : Int32).toInt = toldF (-1) from rfl))⟩
  have mid : ¬ (a < 0 ∧ b < 0) → G xp l xe (rmd (1)) xs xm xa xb xme xc D cy xad xA (YX12_times.2.1, YX12_times.1.cls, YX12_times.2.2.1, YX12_times.2.2.2) (Pi (ldP pg st (muP bs w a b))) 32 ([some (.ref 31), some (.int x), some (.int y), none, none]) ([]) (st) := by
    intro hnn
    refine g_ild1 eX12_times_32 ?_
    refine g_callSi (w_isOpen st x) cs_X12_339 eX12_times_33 ⟨Nat.le_of_ble_eq_true rfl, Nat.le_of_ble_eq_true rfl⟩ rfl rfl (Nat.le_of_ble_eq_true rfl) (fun r st h9 => ?_)
    obtain ⟨rfl, rfl⟩ := h9
    refine g_if_ne eX12_times_36 (fun hb1 => ?_) (fun hb1 => ?_)
    · rw [b2_ne0, hna] at hb1
      refine g_ild1 eX12_times_54 ?_
      refine g_callSi (w_isOpen st x) cs_X12_339 eX12_times_55 ⟨Nat.le_of_ble_eq_true rfl, Nat.le_of_ble_eq_true rfl⟩ rfl rfl (Nat.le_of_ble_eq_true rfl) (fun r st h9 => ?_)
      obtain ⟨rfl, rfl⟩ := h9
      refine g_if_eq eX12_times_58 (fun hb2 => ?_) (fun hb2 => ?_)
      · rw [b2_eq0, hna] at hb2
        exact absurd hb1 hb2
      · refine g_ild1 eX12_times_61 ?_
        refine g_callSi (w_opened st x) cs_X12_342 eX12_times_62 ⟨Nat.le_of_ble_eq_true rfl, Nat.le_of_ble_eq_true rfl⟩ rfl rfl (Nat.le_of_ble_eq_true rfl) (fun r st h9 => ?_)
        obtain ⟨rfl, rfl⟩ := h9
        refine g_goto eX12_times_65 ?_
        refine g_ist3 rfl (Nat.le_of_ble_eq_true rfl) eX12_times_72 ?_
        refine g_ild1 eX12_times_73 ?_
        refine g_callSi (w_isOpen st x) cs_X12_339 eX12_times_74 ⟨Nat.le_of_ble_eq_true rfl, Nat.le_of_ble_eq_true rfl⟩ rfl rfl (Nat.le_of_ble_eq_true rfl) (fun r st h9 => ?_)
        obtain ⟨rfl, rfl⟩ := h9
        refine g_if_eq eX12_times_77 (fun hb3 => ?_) (fun hb3 => ?_)
        · rw [b2_eq0, hna] at hb3
          exact absurd hb1 hb3
        · refine g_ild2 eX12_times_80 ?_
          refine g_goto eX12_times_81 ?_
          refine g_ist4 rfl (Nat.le_of_ble_eq_true rfl) eX12_times_85 ?_
          refine one (-1 - a) b _ _ (by rw [oa, told_open hb1]; omega) (by omega) (by omega) hy (fun z => hnn ⟨hb1, z⟩) ?_
          unfold muP
          rw [if_pos hb1]
    · rw [b2_eq0, hna] at hb1
      refine g_ild2 eX12_times_39 ?_
      refine g_callSi (w_isOpen st y) cs_X12_339 eX12_times_40 ⟨Nat.le_of_ble_eq_true rfl, Nat.le_of_ble_eq_true rfl⟩ rfl rfl (Nat.le_of_ble_eq_true rfl) (fun r st h9 => ?_)
      obtain ⟨rfl, rfl⟩ := h9
      refine g_if_ne eX12_times_43 (fun hb2 => ?_) (fun hb2 => ?_)
      · rw [b2_ne0, hnb] at hb2
        refine g_ild1 eX12_times_54 ?_
        refine g_callSi (w_isOpen st x) cs_X12_339 eX12_times_55 ⟨Nat.le_of_ble_eq_true rfl, Nat.le_of_ble_eq_true rfl⟩ rfl rfl (Nat.le_of_ble_eq_true rfl) (fun r st h9 => ?_)
        obtain ⟨rfl, rfl⟩ := h9
        refine g_if_eq eX12_times_58 (fun hb3 => ?_) (fun hb3 => ?_)
        · refine g_ild2 eX12_times_68 ?_
          refine g_callSi (w_opened st y) cs_X12_342 eX12_times_69 ⟨Nat.le_of_ble_eq_true rfl, Nat.le_of_ble_eq_true rfl⟩ rfl rfl (Nat.le_of_ble_eq_true rfl) (fun r st h9 => ?_)
          obtain ⟨rfl, rfl⟩ := h9
          refine g_ist3 rfl (Nat.le_of_ble_eq_true rfl) eX12_times_72 ?_
          refine g_ild1 eX12_times_73 ?_
          refine g_callSi (w_isOpen st x) cs_X12_339 eX12_times_74 ⟨Nat.le_of_ble_eq_true rfl, Nat.le_of_ble_eq_true rfl⟩ rfl rfl (Nat.le_of_ble_eq_true rfl) (fun r st h9 => ?_)
          obtain ⟨rfl, rfl⟩ := h9
          refine g_if_eq eX12_times_77 (fun hb4 => ?_) (fun hb4 => ?_)
          · refine g_ild1 eX12_times_84 ?_
            refine g_ist4 rfl (Nat.le_of_ble_eq_true rfl) eX12_times_85 ?_
            refine one (-1 - b) a _ _ (by rw [ob, told_open hb2]; omega) (by omega) (by omega) hx hb1 ?_
            unfold muP
            rw [if_neg hb1, if_pos hb2]
          · rw [b2_ne0, hna] at hb4
            exact absurd hb4 hb1
        · rw [b2_ne0, hna] at hb3
          exact absurd hb3 hb1
      · rw [b2_eq0, hnb] at hb2
        refine g_ald0 eX12_times_46 ?_
        refine g_iconst (v := 3) (by decide) eX12_times_47 ?_
        refine g_ild1 eX12_times_48 ?_
        refine g_ild2 eX12_times_49 ?_
        refine g_callVi (ci := 11) (w_adds st hL hw hf 3 a b 3 x y rfl hx (by rw [hy]; rfl)) rfl (Nat.le_of_ble_eq_true rfl) (Nat.le_of_ble_eq_true rfl) rfl cv_X12_345 eX12_times_50 ⟨Nat.le_of_ble_eq_true rfl, Nat.le_of_ble_eq_true rfl⟩ rfl rfl (Nat.le_of_ble_eq_true rfl) (fun r u h => ?_)
        refine g_iret rfl eX12_times_53 ⟨_, rfl, ?_⟩
        try dsimp only
        unfold muP
        rw [if_neg hb1, if_neg hb2]
        exact h
  refine g_ild1 eX12_times_0 ?_
  refine g_callSi (w_isOpen st x) cs_X12_339 eX12_times_1 ⟨Nat.le_of_ble_eq_true rfl, Nat.le_of_ble_eq_true rfl⟩ rfl rfl (Nat.le_of_ble_eq_true rfl) (fun r st h9 => ?_)
  obtain ⟨rfl, rfl⟩ := h9
  refine g_if_eq eX12_times_4 (fun hb1 => ?_) (fun hb1 => ?_)
  · rw [b2_eq0, hna] at hb1
    exact mid (fun q => hb1 q.1)
  · rw [b2_ne0, hna] at hb1
    refine g_ild2 eX12_times_7 ?_
    refine g_callSi (w_isOpen st y) cs_X12_339 eX12_times_8 ⟨Nat.le_of_ble_eq_true rfl, Nat.le_of_ble_eq_true rfl⟩ rfl rfl (Nat.le_of_ble_eq_true rfl) (fun r st h9 => ?_)
    obtain ⟨rfl, rfl⟩ := h9
    refine g_if_eq eX12_times_11 (fun hb2 => ?_) (fun hb2 => ?_)
    · rw [b2_eq0, hnb] at hb2
      exact mid (fun q => hb2 q.2)
    · rw [b2_ne0, hnb] at hb2
      have oa2 : (-30 - x).toInt = -1 - a := by rw [oa, told_open hb1]; omega
      have ob2 : (-30 - y).toInt = -1 - b := by rw [ob, told_open hb2]; omega
      clear oa ob hna hnb mid one
      refine g_bipush (v := (-30)) (by decide) eX12_times_14 ?_
      refine g_ild1 eX12_times_16 ?_
      refine g_callSi (w_opened st x) cs_X12_342 eX12_times_17 ⟨Nat.le_of_ble_eq_true rfl, Nat.le_of_ble_eq_true rfl⟩ rfl rfl (Nat.le_of_ble_eq_true rfl) (fun r st h9 => ?_)
      obtain ⟨rfl, rfl⟩ := h9
      refine g_ild2 eX12_times_20 ?_
      refine g_callSi (w_opened st y) cs_X12_342 eX12_times_21 ⟨Nat.le_of_ble_eq_true rfl, Nat.le_of_ble_eq_true rfl⟩ rfl rfl (Nat.le_of_ble_eq_true rfl) (fun r st h9 => ?_)
      obtain ⟨rfl, rfl⟩ := h9
      have q1 : 0 ≤ (-1 - a) * (-1 - b) := Int.mul_nonneg (by omega) (by omega)
      have q2 : (-1 - a) * (-1 - b) ≤ 13 * 13 := Int.mul_le_mul (by omega) (by omega) (by omega) (by decide)
      have e1 : ((-30 - x) * (-30 - y)).toInt = (-1 - a) * (-1 - b) := by rw [fb_mulI (by rw [oa2, ob2]; omega) (by rw [oa2, ob2]; omega), oa2, ob2]
      refine g_imul eX12_times_24 ?_
      refine g_ald0 eX12_times_25 ?_
      refine g_getI (ci := 11) (j := 17) rfl (Nat.le_of_ble_eq_true rfl) (Nat.le_of_ble_eq_true rfl) (Nat.le_of_ble_eq_true rfl) rfl fl_X12_174 eX12_times_26 ?_
      rw [hbs.1]
      generalize (-30 - x) * (-30 - y) = z at e1
      clear oa2 ob2
      refine g_irem hne eX12_times_29 ?_
      have er := rem_nn (x := z) (y := nI bs) (by rw [e1]; exact q1) (by rw [hbi]; omega)
      rw [e1, hbi] at er
      generalize z - z / nI bs * nI bs = z3 at er
      have hr := em_rng ((-1 - a) * (-1 - b)) hbs.2.1
      refine g_isub eX12_times_30 ?_
      refine g_iret rfl eX12_times_31 ⟨_, rfl, ?_⟩
      try dsimp only
      unfold muP omP
      rw [if_pos hb1, if_pos hb2, Int.mul_comm (-1 - b) (-1 - a)]
      refine ld_same hw hf (rest_open hbs.2.1 ?_)
      generalize (-1 - a) * (-1 - b) % (bs : Int) = q9 at er hr
      rw [sub30 (by rw [er]; omega), er]
end WORKN
