/-! NAMES: faultOf, check, standsFor, letStandFor -/
section NAMD
variable {l : Launch} {D : va_G} {cy : Nat → ClassId} {K P V : Nat → Nat} {cnt t : Nat}
def nuOK (t : Nat) (st : St) (E : List NE) (ins : Nat) : Prop := nmOK st E ∧ st.1 10 5 = nI ins ∧ st.1 10 0 = nI t ∧ st.1 10 6 = -1
theorem nmOK_put {st : St} {E : List NE} (h : nmOK st E) {j : Nat} (x : Int32) (hj : j ≠ 4) : nmOK (sI st 10 j x) E := by
  obtain ⟨h1, h2, h3⟩ := h
  refine ⟨?_, h2, h3⟩
  rw [sI_1, if_neg (fun q => hj q.2.symm)]
  exact h1
theorem nFr_put (st : St) {j : Nat} (x : Int32) (hj : j ≠ 0) : nFr st (sI st 10 j x) := ⟨fun a h _ _ => sI_row h, fun _ _ => rfl, by rw [sI_1, if_neg (fun q => hj q.2.symm)]⟩
theorem m_faultOf (st : St) (hv : nvOK K P V cnt st) {E : List NE} {ins : Nat} (hn : nuOK t st E ins) (h13 : t < 100) (hins : ins ≤ 300) (i : Nat) (hi1 : 1 ≤ i) (hi : i < cnt) (hE : E.length < 300) : Mi l D cy 1 YX4_faultOf [.ref 10, .ref 4, .int (nI i)] st (fun r u => nFr st u ∧ r = nI (fauF t K V cnt i E ins).1 ∧ nuOK t u (fauF t K V cnt i E ins).2.1 (fauF t K V cnt i E ins).2.2) := by
  have hv9 := hv
  obtain ⟨h1, h2, h3⟩ := hv
  obtain ⟨n1, n2, n3, n4⟩ := hn
  have hVi := (h3 i (by omega)).2.2.2.2
  have hK1 := (h3 (i - 1) (by omega)).2.2.2.1
  have hin : vp_in (nI i) 302 := vp_in_nI (by omega) (by decide)
  have hin1 : vp_in (nI (i - 1)) 302 := vp_in_nI (by omega) (by decide)
  have hxt : (nI (K (i - 1))).toInt = (K (i - 1) : Int) := nI_toInt (by omega)
  have hfl := fnd_le (V i) E
  generalize hF : fauF t K V cnt i E ins = F
  refine M.ofG [some (.ref 10), some (.ref 4), some (.int (nI i)), none, none, none] (by decide) (Nat.le_of_ble_eq_true rfl) rfl ?_
  intro xp xe xs xm xa xb xme xc xad xA
  refine g_ald1 eX4_faultOf_0 ?_
  refine g_getR (ci := 9) (j := 2) rfl (Nat.le_of_ble_eq_true rfl) (Nat.le_of_ble_eq_true rfl) (Nat.le_of_ble_eq_true rfl) rfl rfl fl_X4_48 eX4_faultOf_1 ?_
  refine g_ild2 eX4_faultOf_4 ?_
  refine g_lald rfl (Nat.le_of_ble_eq_true rfl) hin eX4_faultOf_5 ?_
  rw [nI_clamp (by omega), (h3 i (by omega)).2.2.1]
  refine g_lst3 rfl (Nat.le_of_ble_eq_true rfl) eX4_faultOf_6 ?_
  refine g_ald0 eX4_faultOf_7 ?_
  refine g_lld3 eX4_faultOf_8 ?_
  refine g_callVi (ci := 4) (m_find st n1 (by omega) (V i) hVi) rfl (Nat.le_of_ble_eq_true rfl) (Nat.le_of_ble_eq_true rfl) rfl cv_X4_55 eX4_faultOf_9 ⟨Nat.le_of_ble_eq_true rfl, Nat.le_of_ble_eq_true rfl⟩ rfl rfl (Nat.le_of_ble_eq_true rfl) (fun r st h => ?_)
  obtain ⟨rfl, rfl⟩ := h
  refine g_ist5 rfl (Nat.le_of_ble_eq_true rfl) eX4_faultOf_12 ?_
  refine g_ald1 eX4_faultOf_14 ?_
  refine g_getR (ci := 9) (j := 0) rfl (Nat.le_of_ble_eq_true rfl) (Nat.le_of_ble_eq_true rfl) (Nat.le_of_ble_eq_true rfl) rfl rfl fl_X4_38 eX4_faultOf_15 ?_
  refine g_ild2 eX4_faultOf_18 ?_
  refine g_iconst (v := 1) (by decide) eX4_faultOf_19 ?_
  refine g_isub eX4_faultOf_20 ?_
  rw [show nI i - 1 = nI (i - 1) from nI_sub hi1]
  refine g_iald rfl (Nat.le_of_ble_eq_true rfl) hin1 eX4_faultOf_21 ?_
  rw [nI_clamp (by omega), (h3 (i - 1) (by omega)).1]
  generalize hz : (if fnd (V i) E < E.length then nI (fnd (V i) E) else (-1 : Int32)) = z
  have hzn : z < 0 ↔ ¬ fnd (V i) E < E.length := by
    rw [← hz]
    by_cases q : fnd (V i) E < E.length
    · rw [if_pos q]
      exact ⟨fun w => absurd w (nI_pos (by omega)), fun w => absurd q w⟩
    · rw [if_neg q]
      exact ⟨fun _ => q, fun _ => by decide⟩
  have hzp : fnd (V i) E < E.length → z = nI (fnd (V i) E) := fun q => by rw [← hz, if_pos q]
  unfold fauF at hF
  by_cases k4 : K (i - 1) = 4
  · have hq : (nI (K (i - 1))).toInt = 4 := by rw [hxt, k4]; rfl
    rw [if_pos k4] at hF
    refine g_tableIn (off := 38) (tgt := 60) eX4_faultOf_22 (by omega) (by omega) (by rw [hq]; rfl) (by decide) ?_
    refine g_ald0 eX4_faultOf_60 ?_
    refine g_lld3 eX4_faultOf_61 ?_
    refine g_iconst (v := 4) (by decide) eX4_faultOf_62 ?_
    refine g_ald0 eX4_faultOf_63 ?_
    refine g_getI (ci := 4) (j := 5) rfl (Nat.le_of_ble_eq_true rfl) (Nat.le_of_ble_eq_true rfl) (Nat.le_of_ble_eq_true rfl) rfl fl_X4_28 eX4_faultOf_64 ?_
    rw [n2]
    refine g_callSi (m_codeOfIn st (nI ins)) cs_X4_59 eX4_faultOf_67 ⟨Nat.le_of_ble_eq_true rfl, Nat.le_of_ble_eq_true rfl⟩ rfl rfl (Nat.le_of_ble_eq_true rfl) (fun r st h => ?_)
    obtain ⟨rfl, rfl⟩ := h
    rw [show (40 : Int32) + nI ins = nI (40 + ins) from nI_add 40 ins, show (4 : Int32) = nI 4 from rfl]
    refine g_callVv (ci := 4) (m_nadd st n1 hE (V i) hVi 4 (by decide) (nI (40 + ins))) rfl (Nat.le_of_ble_eq_true rfl) (Nat.le_of_ble_eq_true rfl) rfl cv_X4_51 eX4_faultOf_70 ⟨Nat.le_of_ble_eq_true rfl, Nat.le_of_ble_eq_true rfl⟩ rfl rfl (Nat.le_of_ble_eq_true rfl) (fun u h => ?_)
    obtain ⟨hf, m1, m2, m3⟩ := h
    rw [nI_toInt (by omega)] at m1
    refine g_ald0 eX4_faultOf_73 ?_
    refine g_dup rfl eX4_faultOf_74 ?_
    refine g_getI (ci := 4) (j := 5) rfl (Nat.le_of_ble_eq_true rfl) (Nat.le_of_ble_eq_true rfl) (Nat.le_of_ble_eq_true rfl) rfl fl_X4_28 eX4_faultOf_75 ?_
    rw [m2, n2]
    refine g_iconst (v := 1) (by decide) eX4_faultOf_78 ?_
    refine g_iadd eX4_faultOf_79 ?_
    refine g_putI (ci := 4) (j := 5) rfl rfl (Nat.le_of_ble_eq_true rfl) (Nat.le_of_ble_eq_true rfl) (Nat.le_of_ble_eq_true rfl) rfl fl_X4_28 eX4_faultOf_80 ?_
    refine g_ild5 eX4_faultOf_83 ?_
    rw [show nI ins + 1 = nI (ins + 1) from nI_1 _]
    have fin : nFr st (sI u 10 5 (nI (ins + 1))) ∧ nuOK t (sI u 10 5 (nI (ins + 1))) F.2.1 F.2.2 := by
      rw [← hF]
      refine ⟨hf.trans (nFr_put _ _ (by decide)), nmOK_put m1 _ (by decide), ?_, ?_, ?_⟩
      · rw [sI_1, if_pos ⟨rfl, rfl⟩]
      · rw [sI_1, if_neg (by omega), hf.2.2]; exact n3
      · rw [sI_1, if_neg (by omega), m3]; exact n4
    refine g_if_lt eX4_faultOf_85 (fun hb => ?_) (fun hb => ?_)
    · rw [hzn] at hb
      refine g_iconst (v := 0) (by decide) eX4_faultOf_92 ?_
      exact g_iret rfl eX4_faultOf_93 ⟨_, rfl, ⟨fin.1, by rw [← hF]; dsimp only; rw [if_neg hb]; rfl, fin.2⟩⟩
    · rw [hzn] at hb
      refine g_iconst (v := 3) (by decide) eX4_faultOf_88 ?_
      refine g_goto eX4_faultOf_89 ?_
      exact g_iret rfl eX4_faultOf_93 ⟨_, rfl, ⟨fin.1, by rw [← hF]; dsimp only; rw [if_pos (Decidable.not_not.mp hb)]; rfl, fin.2⟩⟩
  by_cases k6 : K (i - 1) = 6
  · have hq : (nI (K (i - 1))).toInt = 6 := by rw [hxt, k6]; rfl
    rw [if_neg k4, if_pos k6] at hF
    have fin : nFr st st ∧ nuOK t st F.2.1 F.2.2 := by
      rw [← hF]
      exact ⟨nFr.refl _, n1, n2, n3, n4⟩
    refine g_tableIn (off := 72) (tgt := 94) eX4_faultOf_22 (by omega) (by omega) (by rw [hq]; rfl) (by decide) ?_
    refine g_ild5 eX4_faultOf_94 ?_
    refine g_if_lt eX4_faultOf_96 (fun hb => ?_) (fun hb => ?_)
    · rw [hzn] at hb
      refine g_iconst (v := 0) (by decide) eX4_faultOf_103 ?_
      exact g_iret rfl eX4_faultOf_104 ⟨_, rfl, ⟨fin.1, by rw [← hF]; dsimp only; rw [if_neg hb]; rfl, fin.2⟩⟩
    · rw [hzn] at hb
      refine g_iconst (v := 3) (by decide) eX4_faultOf_99 ?_
      refine g_goto eX4_faultOf_100 ?_
      exact g_iret rfl eX4_faultOf_104 ⟨_, rfl, ⟨fin.1, by rw [← hF]; dsimp only; rw [if_pos (Decidable.not_not.mp hb)]; rfl, fin.2⟩⟩
  by_cases k5 : K (i - 1) = 5
  · have hq : (nI (K (i - 1))).toInt = 5 := by rw [hxt, k5]; rfl
    rw [if_neg k4, if_neg k6, if_pos k5] at hF
    refine g_tableIn (off := 83) (tgt := 105) eX4_faultOf_22 (by omega) (by omega) (by rw [hq]; rfl) (by decide) ?_
    refine g_ald0 eX4_faultOf_105 ?_
    refine g_lld3 eX4_faultOf_106 ?_
    refine g_iconst (v := 5) (by decide) eX4_faultOf_107 ?_
    refine g_ild2 eX4_faultOf_108 ?_
    rw [show (5 : Int32) = nI 5 from rfl]
    refine g_callVv (ci := 4) (m_nadd st n1 hE (V i) hVi 5 (by decide) (nI i)) rfl (Nat.le_of_ble_eq_true rfl) (Nat.le_of_ble_eq_true rfl) rfl cv_X4_51 eX4_faultOf_109 ⟨Nat.le_of_ble_eq_true rfl, Nat.le_of_ble_eq_true rfl⟩ rfl rfl (Nat.le_of_ble_eq_true rfl) (fun u h => ?_)
    obtain ⟨hf, m1, m2, m3⟩ := h
    rw [nI_toInt (by omega)] at m1
    have hvu := nv_fr hv9 hf
    have hut : u.1 10 0 = nI t := by rw [hf.2.2]; exact n3
    have fin : nFr st u ∧ nuOK t u F.2.1 F.2.2 := by
      rw [← hF]
      exact ⟨hf, m1, by rw [m2]; exact n2, hut, by rw [m3]; exact n4⟩
    refine g_ild5 eX4_faultOf_112 ?_
    refine g_if_lt eX4_faultOf_114 (fun hb => ?_) (fun hb => ?_)
    · rw [hzn] at hb
      refine g_ald0 eX4_faultOf_119 ?_
      refine g_callVi (ci := 4) (m_nprime u t hut h13) rfl (Nat.le_of_ble_eq_true rfl) (Nat.le_of_ble_eq_true rfl) rfl cv_X4_65 eX4_faultOf_120 ⟨Nat.le_of_ble_eq_true rfl, Nat.le_of_ble_eq_true rfl⟩ rfl rfl (Nat.le_of_ble_eq_true rfl) (fun r u h => ?_)
      obtain ⟨rfl, rfl⟩ := h
      refine g_if_eq eX4_faultOf_123 (fun hb2 => ?_) (fun hb2 => ?_)
      · rw [b2_eq0] at hb2
        refine g_iconst (v := 5) (by decide) eX4_faultOf_142 ?_
        exact g_iret rfl eX4_faultOf_143 ⟨_, rfl, ⟨fin.1, by rw [← hF]; dsimp only; rw [if_neg hb, if_neg (fun q => hb2 q.1)]; rfl, fin.2⟩⟩
      · rw [b2_ne0] at hb2
        refine g_ald1 eX4_faultOf_126 ?_
        refine g_ild2 eX4_faultOf_127 ?_
        refine g_callSi (m_numbersBehind u hvu i hi) cs_X4_69 eX4_faultOf_128 ⟨Nat.le_of_ble_eq_true rfl, Nat.le_of_ble_eq_true rfl⟩ rfl rfl (Nat.le_of_ble_eq_true rfl) (fun r u h => ?_)
        obtain ⟨rfl, rfl⟩ := h
        have hnb := nbL_le K cnt (cnt - (i + 1)) (i + 1)
        have hnb2 : nbF K cnt i < 1000 := by unfold nbF; omega
        refine g_ald0 eX4_faultOf_131 ?_
        refine g_getI (ci := 4) (j := 0) rfl (Nat.le_of_ble_eq_true rfl) (Nat.le_of_ble_eq_true rfl) (Nat.le_of_ble_eq_true rfl) rfl fl_X4_34 eX4_faultOf_132 ?_
        rw [hut]
        refine g_icmp_ne eX4_faultOf_135 (fun hb3 => ?_) (fun hb3 => ?_)
        · rw [nI_eq (by omega) (by omega)] at hb3
          refine g_iconst (v := 5) (by decide) eX4_faultOf_142 ?_
          exact g_iret rfl eX4_faultOf_143 ⟨_, rfl, ⟨fin.1, by rw [← hF]; dsimp only; rw [if_neg hb, if_neg (fun q => hb3 q.2)]; rfl, fin.2⟩⟩
        · rw [nI_eq (by omega) (by omega)] at hb3
          refine g_iconst (v := 0) (by decide) eX4_faultOf_138 ?_
          refine g_goto eX4_faultOf_139 ?_
          exact g_iret rfl eX4_faultOf_143 ⟨_, rfl, ⟨fin.1, by rw [← hF]; dsimp only; rw [if_neg hb, if_pos ⟨hb2, hb3⟩]; rfl, fin.2⟩⟩
    · rw [hzn] at hb
      refine g_iconst (v := 3) (by decide) eX4_faultOf_117 ?_
      exact g_iret rfl eX4_faultOf_118 ⟨_, rfl, ⟨fin.1, by rw [← hF]; dsimp only; rw [if_pos (Decidable.not_not.mp hb)]; rfl, fin.2⟩⟩
  have hso : fnd (V i) E < E.length → vp_in (nI (fnd (V i) E)) 300 ∧ st.1 12 (nI (fnd (V i) E)).toNatClampNeg = nI (E.getD (fnd (V i) E) (0, 0, 0)).2.1 ∧ (E.getD (fnd (V i) E) (0, 0, 0)).2.1 < 10 := by
    intro q
    rw [nI_clamp (by omega)]
    exact ⟨vp_in_nI (by omega) (by decide), (n1.2.1 _ q).2.1, (n1.2.2 _ q).2⟩
  by_cases k9 : K (i - 1) = 9
  · have hq : (nI (K (i - 1))).toInt = 9 := by rw [hxt, k9]; rfl
    rw [if_neg k4, if_neg k6, if_neg k5, if_pos k9] at hF
    have fin : nFr st st ∧ nuOK t st F.2.1 F.2.2 := by
      rw [← hF]
      exact ⟨nFr.refl _, n1, n2, n3, n4⟩
    refine g_tableIn (off := 122) (tgt := 144) eX4_faultOf_22 (by omega) (by omega) (by rw [hq]; rfl) (by decide) ?_
    refine g_ild5 eX4_faultOf_144 ?_
    refine g_if_lt eX4_faultOf_146 (fun hb => ?_) (fun hb => ?_)
    · rw [hzn] at hb
      refine g_iconst (v := 4) (by decide) eX4_faultOf_164 ?_
      exact g_iret rfl eX4_faultOf_165 ⟨_, rfl, ⟨fin.1, by rw [← hF]; dsimp only; rw [if_neg (fun q => hb q.1)]; rfl, fin.2⟩⟩
    · rw [hzn] at hb
      have hb9 := Decidable.not_not.mp hb
      obtain ⟨q1, q2, q3⟩ := hso hb9
      rw [hzp hb9]
      refine g_ald0 eX4_faultOf_149 ?_
      refine g_getR (ci := 4) (j := 2) rfl (Nat.le_of_ble_eq_true rfl) (Nat.le_of_ble_eq_true rfl) (Nat.le_of_ble_eq_true rfl) rfl rfl fl_X4_17 eX4_faultOf_150 ?_
      refine g_ild5 eX4_faultOf_153 ?_
      refine g_iald rfl (Nat.le_of_ble_eq_true rfl) q1 eX4_faultOf_155 ?_
      rw [q2]
      refine g_iconst (v := 5) (by decide) eX4_faultOf_156 ?_
      refine g_icmp_ne eX4_faultOf_157 (fun hb2 => ?_) (fun hb2 => ?_)
      · have e : ¬ (E.getD (fnd (V i) E) (0, 0, 0)).2.1 = 5 := fun q => hb2 (by rw [q]; rfl)
        refine g_iconst (v := 4) (by decide) eX4_faultOf_164 ?_
        exact g_iret rfl eX4_faultOf_165 ⟨_, rfl, ⟨fin.1, by rw [← hF]; dsimp only; rw [if_neg (fun q => e q.2)]; rfl, fin.2⟩⟩
      · have e : (E.getD (fnd (V i) E) (0, 0, 0)).2.1 = 5 := (nI_eq (b := 5) (by omega) (by omega)).mp hb2
        refine g_iconst (v := 0) (by decide) eX4_faultOf_160 ?_
        refine g_goto eX4_faultOf_161 ?_
        exact g_iret rfl eX4_faultOf_165 ⟨_, rfl, ⟨fin.1, by rw [← hF]; dsimp only; rw [if_pos ⟨hb9, e⟩]; rfl, fin.2⟩⟩
  · rw [if_neg k4, if_neg k6, if_neg k5, if_neg k9] at hF
    have fin : nFr st st ∧ nuOK t st F.2.1 F.2.2 := by
      rw [← hF]
      exact ⟨nFr.refl _, n1, n2, n3, n4⟩
    have rest : G xp l xe (rmd (1)) xs xm xa xb xme xc D cy xad xA (YX4_faultOf.2.1, YX4_faultOf.1.cls, YX4_faultOf.2.2.1, YX4_faultOf.2.2.2) (Pi (fun (r : Int32) (u : St) => nFr st u ∧ r = nI F.1 ∧ nuOK t u F.2.1 F.2.2)) 166 ([some (.ref 10), some (.ref 4), some (.int (nI i)), some (.long (lN (V i))), none, some (.int z)]) ([]) (st) := by
      refine g_ild5 eX4_faultOf_166 ?_
      refine g_if_lt eX4_faultOf_168 (fun hb => ?_) (fun hb => ?_)
      · rw [hzn] at hb
        refine g_iconst (v := 4) (by decide) eX4_faultOf_186 ?_
        exact g_iret rfl eX4_faultOf_187 ⟨_, rfl, ⟨fin.1, by rw [← hF]; dsimp only; rw [if_neg (fun q => hb q.1)]; rfl, fin.2⟩⟩
      · rw [hzn] at hb
        have hb9 := Decidable.not_not.mp hb
        obtain ⟨q1, q2, q3⟩ := hso hb9
        rw [hzp hb9]
        refine g_ald0 eX4_faultOf_171 ?_
        refine g_getR (ci := 4) (j := 2) rfl (Nat.le_of_ble_eq_true rfl) (Nat.le_of_ble_eq_true rfl) (Nat.le_of_ble_eq_true rfl) rfl rfl fl_X4_17 eX4_faultOf_172 ?_
        refine g_ild5 eX4_faultOf_175 ?_
        refine g_iald rfl (Nat.le_of_ble_eq_true rfl) q1 eX4_faultOf_177 ?_
        rw [q2]
        refine g_iconst (v := 5) (by decide) eX4_faultOf_178 ?_
        refine g_icmp_eq eX4_faultOf_179 (fun hb2 => ?_) (fun hb2 => ?_)
        · have e : (E.getD (fnd (V i) E) (0, 0, 0)).2.1 = 5 := (nI_eq (b := 5) (by omega) (by omega)).mp hb2
          refine g_iconst (v := 4) (by decide) eX4_faultOf_186 ?_
          exact g_iret rfl eX4_faultOf_187 ⟨_, rfl, ⟨fin.1, by rw [← hF]; dsimp only; rw [if_neg (fun q => q.2 e)]; rfl, fin.2⟩⟩
        · have e : ¬ (E.getD (fnd (V i) E) (0, 0, 0)).2.1 = 5 := fun q => hb2 (by rw [q]; rfl)
          refine g_iconst (v := 0) (by decide) eX4_faultOf_182 ?_
          refine g_goto eX4_faultOf_183 ?_
          exact g_iret rfl eX4_faultOf_187 ⟨_, rfl, ⟨fin.1, by rw [← hF]; dsimp only; rw [if_pos ⟨hb9, e⟩]; rfl, fin.2⟩⟩
    by_cases k7 : K (i - 1) = 7
    · have hq : (nI (K (i - 1))).toInt = 7 := by rw [hxt, k7]; rfl
      refine g_tableIn (off := 144) (tgt := 166) eX4_faultOf_22 (by omega) (by omega) (by rw [hq]; rfl) (by decide) ?_
      exact rest
    by_cases k8 : K (i - 1) = 8
    · have hq : (nI (K (i - 1))).toInt = 8 := by rw [hxt, k8]; rfl
      refine g_tableIn (off := 144) (tgt := 166) eX4_faultOf_22 (by omega) (by omega) (by rw [hq]; rfl) (by decide) ?_
      exact rest
    · refine g_tableOut (tgt := 166) eX4_faultOf_22 (by omega) (by decide) ?_
      exact rest
/-- the names' check: its answer -/
def ncPost (t : Nat) (P : Nat → Nat) (st : St) (R : (Nat × Nat) ⊕ (List NE × Nat)) (r : Int32) (u : St) : Prop := nFr st u ∧ match R with
  | .inl e => r = nI e.1 ∧ u.1 10 6 = nI (P e.2)
  | .inr x => r = 0 ∧ nuOK t u x.1 x.2 ∧ x.1.length ≤ 300 ∧ x.2 ≤ 300
def ltI (lt : Nat) : Int32 := if lt = 0 then -1 else nI lt
theorem fau_len {i : Nat} {E : List NE} {ins : Nat} : (fauF t K V cnt i E ins).2.1.length ≤ E.length + 1 ∧ (fauF t K V cnt i E ins).2.2 ≤ ins + 1 ∧ (fauF t K V cnt i E ins).1 ≤ 5 := by
  unfold fauF
  repeat' split
  all_goals (simp only [List.length_append, List.length_singleton]; refine ⟨?_, ?_, ?_⟩ <;> first | omega | (repeat' split <;> omega))
theorem m_ncheck (st : St) (hv : nvOK K P V cnt st) (ht : st.1 10 0 = nI t) (h13 : t < 100) : Mi l D cy 2 YX4_check [.ref 10, .ref 4] st (ncPost t P st (scnF t K V cnt)) := by
  generalize hR : scnF t K V cnt = R
  refine M.ofG [some (.ref 10), some (.ref 4), none, none, none] (by decide) (Nat.le_of_ble_eq_true rfl) rfl ?_
  intro xp xe xs xm xa xb xme xc xad xA
  have hcn : ∀ u, nFr st u → u.1 4 3 = nI cnt := fun u hf => (nv_fr hv hf).1
  have h300 := hv.2.1
  have fin : ∀ (u : St) (E : List NE) (ins lt i : Nat) (y4 : Option Value), nFr st u → nuOK t u E ins → E.length ≤ 300 → ins ≤ 300 → R = .inr (E, ins) → G xp l xe (rmd (2)) xs xm xa xb xme xc D cy xad xA (YX4_check.2.1, YX4_check.1.cls, YX4_check.2.2.1, YX4_check.2.2.2) (Pi (ncPost t P st R)) 128 ([some (.ref 10), some (.ref 4), some (.int (ltI lt)), some (.int (nI i)), y4]) ([]) (u) := by
    intro u E ins lt i y4 hf hn hE hins hR2
    refine g_iconst (v := 0) (by decide) eX4_check_128 ?_
    refine g_iret rfl eX4_check_129 ⟨_, rfl, ?_⟩
    try dsimp only
    unfold ncPost
    rw [hR2]
    exact ⟨hf, rfl, hn, hE, hins⟩
  have loop : ∀ (f i : Nat) (u : St) (E : List NE) (ins lt : Nat) (y4 : Option Value), (i + f = cnt ∨ f = 0 ∧ cnt ≤ i) → 1 ≤ i → i ≤ 301 → lt < i → E.length < i → ins < i → nFr st u → nuOK t u E ins → R = scnL t K V cnt f i E ins lt → G xp l xe (rmd (2)) xs xm xa xb xme xc D cy xad xA (YX4_check.2.1, YX4_check.1.cls, YX4_check.2.2.1, YX4_check.2.2.2) (Pi (ncPost t P st R)) 19 ([some (.ref 10), some (.ref 4), some (.int (ltI lt)), some (.int (nI i)), y4]) ([]) (u) := by
    intro f
    induction f with
    | zero =>
      intro i u E ins lt y4 hf hi1 hi3 hlt hE hins hF hn hR2
      refine g_ild3 eX4_check_19 ?_
      refine g_ald1 eX4_check_20 ?_
      refine g_getI (ci := 9) (j := 3) rfl (Nat.le_of_ble_eq_true rfl) (Nat.le_of_ble_eq_true rfl) (Nat.le_of_ble_eq_true rfl) rfl fl_X4_37 eX4_check_21 ?_
      rw [hcn u hF]
      refine g_icmp_ge eX4_check_24 (fun hb => ?_) (fun hb => ?_)
      · exact fin u E ins lt i y4 hF hn (by omega) (by omega) hR2
      · exact absurd (nI_le (by omega) (by omega)) hb
    | succ f ih =>
      intro i u E ins lt y4 hf hi1 hi3 hlt hE hins hF hn hR2
      have hic : i < cnt := by omega
      have hvu := nv_fr hv hF
      obtain ⟨k1, k2, k3, k4, k5⟩ := hvu.2.2 i (by omega)
      have hin : vp_in (nI i) 302 := vp_in_nI (by omega) (by decide)
      have hcl : (nI i).toNatClampNeg = i := nI_clamp (by omega)
      refine g_ild3 eX4_check_19 ?_
      refine g_ald1 eX4_check_20 ?_
      refine g_getI (ci := 9) (j := 3) rfl (Nat.le_of_ble_eq_true rfl) (Nat.le_of_ble_eq_true rfl) (Nat.le_of_ble_eq_true rfl) rfl fl_X4_37 eX4_check_21 ?_
      rw [hcn u hF]
      refine g_icmp_ge eX4_check_24 (fun hb => ?_) (fun hb => ?_)
      · exact absurd hb (nI_ge (by omega) (by omega))
      · refine g_ild3 eX4_check_27 ?_
        refine g_sipush (v := 300) (by decide) eX4_check_28 ?_
        refine g_icmp_ge eX4_check_31 (fun hb => ?_) (fun hb => ?_)
        · exact absurd hb (nI_ge (a := i) (b := 300) (by omega) (by omega))
        · refine g_ald1 eX4_check_34 ?_
          refine g_getR (ci := 9) (j := 0) rfl (Nat.le_of_ble_eq_true rfl) (Nat.le_of_ble_eq_true rfl) (Nat.le_of_ble_eq_true rfl) rfl rfl fl_X4_38 eX4_check_35 ?_
          refine g_ild3 eX4_check_38 ?_
          refine g_iald rfl (Nat.le_of_ble_eq_true rfl) hin eX4_check_39 ?_
          rw [hcl, k1]
          refine g_iconst (v := 2) (by decide) eX4_check_40 ?_
          refine g_icmp_ne eX4_check_41 (fun hb2 => ?_) (fun hb2 => ?_)
          · have e2 : ¬ K i = 2 := fun q => hb2 (by rw [q]; rfl)
            rw [scnL, if_neg e2] at hR2
            have next : ∀ (w : St) (E2 : List NE) (l2 : Nat), l2 < i → E2.length ≤ i → nFr st w → nuOK t w E2 ins → R = scnL t K V cnt f (i + 1) E2 ins l2 → G xp l xe (rmd (2)) xs xm xa xb xme xc D cy xad xA (YX4_check.2.1, YX4_check.1.cls, YX4_check.2.2.1, YX4_check.2.2.2) (Pi (ncPost t P st R)) 122 ([some (.ref 10), some (.ref 4), some (.int (ltI l2)), some (.int (nI i)), y4]) ([]) (w) := by
              intro w E2 l2 a1 a2 a3 a4 a5
              refine g_inc3 rfl (Nat.le_of_ble_eq_true rfl) rfl eX4_check_122 ?_
              refine g_goto eX4_check_125 ?_
              rw [inc1]
              exact ih (i + 1) w E2 ins l2 y4 (by omega) (by omega) (by omega) (by omega) (by omega) (by omega) a3 a4 a5
            refine g_ald1 eX4_check_92 ?_
            refine g_getR (ci := 9) (j := 0) rfl (Nat.le_of_ble_eq_true rfl) (Nat.le_of_ble_eq_true rfl) (Nat.le_of_ble_eq_true rfl) rfl rfl fl_X4_38 eX4_check_93 ?_
            refine g_ild3 eX4_check_96 ?_
            refine g_iald rfl (Nat.le_of_ble_eq_true rfl) hin eX4_check_97 ?_
            rw [hcl, k1]
            refine g_bipush (v := 59) (by decide) eX4_check_98 ?_
            refine g_icmp_ne eX4_check_100 (fun hb3 => ?_) (fun hb3 => ?_)
            · have e3 : ¬ K i = 59 := fun q => hb3 (by rw [q]; rfl)
              rw [if_neg (fun q => e3 q.1)] at hR2
              exact next u E lt hlt (by omega) hF hn hR2
            · have e3 : K i = 59 := (nI_eq (b := 59) (by omega) (by omega)).mp hb3
              refine g_ild2 eX4_check_103 ?_
              by_cases h0 : lt = 0
              · rw [if_neg (fun q => by omega)] at hR2
                refine g_if_le eX4_check_104 (fun hb4 => ?_) (fun hb4 => ?_)
                · exact next u E lt hlt (by omega) hF hn hR2
                · exact absurd (show ltI lt ≤ 0 by unfold ltI; rw [if_pos h0]; decide) hb4
              · rw [if_pos ⟨e3, by omega⟩] at hR2
                have el : ltI lt = nI lt := by unfold ltI; rw [if_neg h0]
                rw [el]
                refine g_if_le eX4_check_104 (fun hb4 => ?_) (fun hb4 => ?_)
                · exact absurd hb4 (nI_nle (by omega) (by omega))
                · obtain ⟨q1, q2, q3, q4, q5⟩ := hvu.2.2 lt (by omega)
                  refine g_ald0 eX4_check_107 ?_
                  refine g_ald1 eX4_check_108 ?_
                  refine g_getR (ci := 9) (j := 2) rfl (Nat.le_of_ble_eq_true rfl) (Nat.le_of_ble_eq_true rfl) (Nat.le_of_ble_eq_true rfl) rfl rfl fl_X4_48 eX4_check_109 ?_
                  refine g_ild2 eX4_check_112 ?_
                  refine g_lald rfl (Nat.le_of_ble_eq_true rfl) (vp_in_nI (n := lt) (N := 302) (by omega) (by decide)) eX4_check_113 ?_
                  rw [nI_clamp (by omega), q3]
                  refine g_bipush (v := 6) (by decide) eX4_check_114 ?_
                  refine g_ild2 eX4_check_116 ?_
                  rw [show (6 : Int32) = nI 6 from rfl]
                  refine g_callVv (ci := 4) (m_nadd u hn.1 (by omega) (V lt) q5 6 (by decide) (nI lt)) rfl (Nat.le_of_ble_eq_true rfl) (Nat.le_of_ble_eq_true rfl) rfl cv_X4_51 eX4_check_117 ⟨Nat.le_of_ble_eq_true rfl, Nat.le_of_ble_eq_true rfl⟩ rfl rfl (Nat.le_of_ble_eq_true rfl) (fun w h => ?_)
                  obtain ⟨hf2, m1, m2, m3⟩ := h
                  rw [nI_toInt (by omega)] at m1
                  refine g_iconst (v := (-1)) (by decide) eX4_check_120 ?_
                  refine g_ist2 rfl (Nat.le_of_ble_eq_true rfl) eX4_check_121 ?_
                  exact next w _ 0 (by omega) (by rw [List.length_append]; simp; omega) (hF.trans hf2) ⟨m1, by rw [m2]; exact hn.2.1, by rw [hf2.2.2]; exact hn.2.2.1, by rw [m3]; exact hn.2.2.2⟩ hR2
          · have e2 : K i = 2 := (nI_eq (b := 2) (by omega) (by omega)).mp hb2
            rw [scnL, if_pos e2] at hR2
            refine g_ald0 eX4_check_44 ?_
            refine g_ald1 eX4_check_45 ?_
            refine g_ild3 eX4_check_46 ?_
            refine g_callVi (ci := 4) (m_faultOf u hvu hn h13 (by omega) i hi1 hic (by omega)) rfl (Nat.le_of_ble_eq_true rfl) (Nat.le_of_ble_eq_true rfl) rfl cv_X4_41 eX4_check_47 ⟨Nat.le_of_ble_eq_true rfl, Nat.le_of_ble_eq_true rfl⟩ rfl rfl (Nat.le_of_ble_eq_true rfl) (fun r w h => ?_)
            obtain ⟨hf2, rfl, hn2⟩ := h
            have hlen := fau_len (t := t) (K := K) (V := V) (cnt := cnt) (i := i) (E := E) (ins := ins)
            generalize hFF : fauF t K V cnt i E ins = FF at hR2 hn2 hlen ⊢
            have hvw := nv_fr hv (hF.trans hf2)
            refine g_ist4 rfl (Nat.le_of_ble_eq_true rfl) eX4_check_50 ?_
            refine g_ild4 eX4_check_52 ?_
            refine g_if_eq eX4_check_54 (fun hb3 => ?_) (fun hb3 => ?_)
            · have e3 : FF.1 = 0 := (nI_eq (b := 0) (by omega) (by omega)).mp hb3
              rw [if_pos e3] at hR2
              have next : ∀ (l2 : Nat), l2 ≤ i → R = scnL t K V cnt f (i + 1) FF.2.1 FF.2.2 l2 → G xp l xe (rmd (2)) xs xm xa xb xme xc D cy xad xA (YX4_check.2.1, YX4_check.1.cls, YX4_check.2.2.1, YX4_check.2.2.2) (Pi (ncPost t P st R)) 88 ([some (.ref 10), some (.ref 4), some (.int (ltI lt)), some (.int (nI i)), some (.int (nI FF.1))]) ([.int (ltI l2)]) (w) := by
                intro l2 a1 a5
                refine g_ist2 rfl (Nat.le_of_ble_eq_true rfl) eX4_check_88 ?_
                refine g_goto eX4_check_89 ?_
                refine g_inc3 rfl (Nat.le_of_ble_eq_true rfl) rfl eX4_check_122 ?_
                refine g_goto eX4_check_125 ?_
                rw [inc1]
                exact ih (i + 1) w _ _ l2 _ (by omega) (by omega) (by omega) (by omega) (by omega) (by omega) (hF.trans hf2) hn2 a5
              obtain ⟨q1, q2, q3, q4, q5⟩ := hvw.2.2 (i - 1) (by omega)
              refine g_ald1 eX4_check_70 ?_
              refine g_getR (ci := 9) (j := 0) rfl (Nat.le_of_ble_eq_true rfl) (Nat.le_of_ble_eq_true rfl) (Nat.le_of_ble_eq_true rfl) rfl rfl fl_X4_38 eX4_check_71 ?_
              refine g_ild3 eX4_check_74 ?_
              refine g_iconst (v := 1) (by decide) eX4_check_75 ?_
              refine g_isub eX4_check_76 ?_
              rw [show nI i - 1 = nI (i - 1) from nI_sub hi1]
              refine g_iald rfl (Nat.le_of_ble_eq_true rfl) (vp_in_nI (n := i - 1) (N := 302) (by omega) (by decide)) eX4_check_77 ?_
              rw [nI_clamp (by omega), q1]
              refine g_bipush (v := 6) (by decide) eX4_check_78 ?_
              refine g_icmp_ne eX4_check_80 (fun hb4 => ?_) (fun hb4 => ?_)
              · have e4 : ¬ K (i - 1) = 6 := fun q => hb4 (by rw [q]; rfl)
                rw [if_neg e4] at hR2
                refine g_ild2 eX4_check_87 ?_
                exact next lt (by omega) hR2
              · have e4 : K (i - 1) = 6 := (nI_eq (b := 6) (by omega) (by omega)).mp hb4
                rw [if_pos e4] at hR2
                have h8 := next i (Nat.le_refl _) hR2
                rw [show ltI i = nI i by unfold ltI; rw [if_neg (by omega)]] at h8
                refine g_ild3 eX4_check_83 ?_
                refine g_goto eX4_check_84 ?_
                exact h8
            · have e3 : ¬ FF.1 = 0 := fun q => hb3 (by rw [q]; rfl)
              rw [if_neg e3] at hR2
              obtain ⟨q1, q2, q3, q4, q5⟩ := hvw.2.2 i (by omega)
              refine g_ald0 eX4_check_57 ?_
              refine g_ald1 eX4_check_58 ?_
              refine g_getR (ci := 9) (j := 1) rfl (Nat.le_of_ble_eq_true rfl) (Nat.le_of_ble_eq_true rfl) (Nat.le_of_ble_eq_true rfl) rfl rfl fl_X4_45 eX4_check_59 ?_
              refine g_ild3 eX4_check_62 ?_
              refine g_iald rfl (Nat.le_of_ble_eq_true rfl) hin eX4_check_63 ?_
              rw [hcl, q2]
              refine g_putI (ci := 4) (j := 6) rfl rfl (Nat.le_of_ble_eq_true rfl) (Nat.le_of_ble_eq_true rfl) (Nat.le_of_ble_eq_true rfl) rfl fl_X4_31 eX4_check_64 ?_
              refine g_ild4 eX4_check_67 ?_
              refine g_iret rfl eX4_check_69 ⟨_, rfl, ?_⟩
              try dsimp only
              unfold ncPost
              rw [hR2]
              refine ⟨(hF.trans hf2).trans (nFr_put _ _ (by decide)), rfl, ?_⟩
              rw [sI_1, if_pos ⟨rfl, rfl⟩]
  refine g_ald0 eX4_check_0 ?_
  refine g_iconst (v := 0) (by decide) eX4_check_1 ?_
  refine g_putI (ci := 4) (j := 4) rfl rfl (Nat.le_of_ble_eq_true rfl) (Nat.le_of_ble_eq_true rfl) (Nat.le_of_ble_eq_true rfl) rfl fl_X4_24 eX4_check_2 ?_
  refine g_ald0 eX4_check_5 ?_
  refine g_iconst (v := 0) (by decide) eX4_check_6 ?_
  refine g_putI (ci := 4) (j := 5) rfl rfl (Nat.le_of_ble_eq_true rfl) (Nat.le_of_ble_eq_true rfl) (Nat.le_of_ble_eq_true rfl) rfl fl_X4_28 eX4_check_7 ?_
  refine g_ald0 eX4_check_10 ?_
  refine g_iconst (v := (-1)) (by decide) eX4_check_11 ?_
  refine g_putI (ci := 4) (j := 6) rfl rfl (Nat.le_of_ble_eq_true rfl) (Nat.le_of_ble_eq_true rfl) (Nat.le_of_ble_eq_true rfl) rfl fl_X4_31 eX4_check_12 ?_
  refine g_iconst (v := (-1)) (by decide) eX4_check_15 ?_
  refine g_ist2 rfl (Nat.le_of_ble_eq_true rfl) eX4_check_16 ?_
  refine g_iconst (v := 1) (by decide) eX4_check_17 ?_
  refine g_ist3 rfl (Nat.le_of_ble_eq_true rfl) eX4_check_18 ?_
  generalize hu : sI (sI (sI st 10 4 0) 10 5 0) 10 6 (-1) = u
  have hF : nFr st u := by
    rw [← hu]
    exact ((nFr_put _ _ (by decide)).trans (nFr_put _ _ (by decide))).trans (nFr_put _ _ (by decide))
  have hn : nuOK t u [] 0 := by
    refine ⟨⟨by rw [← hu]; rfl, fun j hj => absurd hj (Nat.not_lt_zero _), fun j hj => absurd hj (Nat.not_lt_zero _)⟩, by rw [← hu]; rfl, by rw [hF.2.2]; exact ht, by rw [← hu]; rfl⟩
  exact loop (cnt - 1) 1 u [] 0 0 none (by omega) (by omega) (by omega) (by omega) (by decide) (by omega) hF hn hR.symm
theorem m_standsFor (st : St) {E : List NE} (hn : nmOK st E) (hE : E.length ≤ 300) (v : Nat) (hv : v < 1099511627776) : Mi l D cy 1 YX4_standsFor [.ref 10, .long (lN v)] st (fun r u => u = st ∧ r.toInt = if fnd v E < E.length then (E.getD (fnd v E) (0, 0, 0)).2.2 else 0) := by
  refine M.ofG [some (.ref 10), some (.long (lN v)), none, none] (by decide) (Nat.le_of_ble_eq_true rfl) rfl ?_
  intro xp xe xs xm xa xb xme xc xad xA
  refine g_ald0 eX4_standsFor_0 ?_
  refine g_lld1 eX4_standsFor_1 ?_
  refine g_callVi (ci := 4) (m_find st hn hE v hv) rfl (Nat.le_of_ble_eq_true rfl) (Nat.le_of_ble_eq_true rfl) rfl cv_X4_55 eX4_standsFor_2 ⟨Nat.le_of_ble_eq_true rfl, Nat.le_of_ble_eq_true rfl⟩ rfl rfl (Nat.le_of_ble_eq_true rfl) (fun r st h => ?_)
  obtain ⟨rfl, rfl⟩ := h
  refine g_ist3 rfl (Nat.le_of_ble_eq_true rfl) eX4_standsFor_5 ?_
  refine g_ild3 eX4_standsFor_6 ?_
  by_cases q : fnd v E < E.length
  · rw [if_pos q, if_pos q]
    refine g_if_lt eX4_standsFor_7 (fun hb => ?_) (fun hb => ?_)
    · exact absurd hb (nI_pos (by omega))
    · refine g_ald0 eX4_standsFor_10 ?_
      refine g_getR (ci := 4) (j := 3) rfl (Nat.le_of_ble_eq_true rfl) (Nat.le_of_ble_eq_true rfl) (Nat.le_of_ble_eq_true rfl) rfl rfl fl_X4_21 eX4_standsFor_11 ?_
      refine g_ild3 eX4_standsFor_14 ?_
      refine g_iald rfl (Nat.le_of_ble_eq_true rfl) (vp_in_nI (n := fnd v E) (N := 300) (by omega) (by decide)) eX4_standsFor_15 ?_
      rw [nI_clamp (by omega)]
      refine g_goto eX4_standsFor_16 ?_
      exact g_iret rfl eX4_standsFor_20 ⟨_, rfl, ⟨rfl, (hn.2.1 _ q).2.2⟩⟩
  · rw [if_neg q, if_neg q]
    refine g_if_lt eX4_standsFor_7 (fun hb => ?_) (fun hb => ?_)
    · refine g_iconst (v := 0) (by decide) eX4_standsFor_19 ?_
      exact g_iret rfl eX4_standsFor_20 ⟨_, rfl, ⟨rfl, rfl⟩⟩
    · exact absurd (show (-1 : Int32) < 0 by decide) hb
def letS (v : Nat) (z : Int) (E : List NE) : List NE := if fnd v E < E.length then E.set (fnd v E) ((E.getD (fnd v E) (0, 0, 0)).1, (E.getD (fnd v E) (0, 0, 0)).2.1, z) else E
theorem letS_len (v : Nat) (z : Int) (E : List NE) : (letS v z E).length = E.length := by
  unfold letS
  split
  · rw [List.length_set]
  · rfl
theorem m_letStandFor (st : St) {E : List NE} (hn : nmOK st E) (hE : E.length ≤ 300) (v : Nat) (hv : v < 1099511627776) (z : Int32) : Mv l D cy 1 YX4_letStandFor [.ref 10, .long (lN v), .int z] st (fun u => u.2 = st.2 ∧ (∀ a, a ≠ 13 → u.1 a = st.1 a) ∧ nmOK u (letS v z.toInt E)) := by
  refine M.ofG [some (.ref 10), some (.long (lN v)), none, some (.int z), none] (by decide) (Nat.le_of_ble_eq_true rfl) rfl ?_
  intro xp xe xs xm xa xb xme xc xad xA
  refine g_ald0 eX4_letStandFor_0 ?_
  refine g_lld1 eX4_letStandFor_1 ?_
  refine g_callVi (ci := 4) (m_find st hn hE v hv) rfl (Nat.le_of_ble_eq_true rfl) (Nat.le_of_ble_eq_true rfl) rfl cv_X4_55 eX4_letStandFor_2 ⟨Nat.le_of_ble_eq_true rfl, Nat.le_of_ble_eq_true rfl⟩ rfl rfl (Nat.le_of_ble_eq_true rfl) (fun r st h => ?_)
  obtain ⟨rfl, rfl⟩ := h
  unfold letS
  refine g_ist4 rfl (Nat.le_of_ble_eq_true rfl) eX4_letStandFor_5 ?_
  refine g_ild4 eX4_letStandFor_7 ?_
  by_cases q : fnd v E < E.length
  · rw [if_pos q, if_pos q]
    refine g_if_lt eX4_letStandFor_9 (fun hb => ?_) (fun hb => ?_)
    · exact absurd hb (nI_pos (by omega))
    · refine g_ald0 eX4_letStandFor_12 ?_
      refine g_getR (ci := 4) (j := 3) rfl (Nat.le_of_ble_eq_true rfl) (Nat.le_of_ble_eq_true rfl) (Nat.le_of_ble_eq_true rfl) rfl rfl fl_X4_21 eX4_letStandFor_13 ?_
      refine g_ild4 eX4_letStandFor_16 ?_
      refine g_ild3 eX4_letStandFor_18 ?_
      refine g_iast rfl (Nat.le_of_ble_eq_true rfl) (vp_in_nI (n := fnd v E) (N := 300) (by omega) (by decide)) eX4_letStandFor_19 ?_
      rw [nI_clamp (by omega)]
      refine g_vret rfl eX4_letStandFor_20 ⟨rfl, ?_⟩
      try dsimp only
      obtain ⟨h1, h2, h3⟩ := hn
      have hg : ∀ j, j < E.length → (E.set (fnd v E) ((E.getD (fnd v E) (0, 0, 0)).1, (E.getD (fnd v E) (0, 0, 0)).2.1, z.toInt)).getD j (0, 0, 0) = if j = fnd v E then ((E.getD (fnd v E) (0, 0, 0)).1, (E.getD (fnd v E) (0, 0, 0)).2.1, z.toInt) else E.getD j (0, 0, 0) := by
        intro j hj
        by_cases e : j = fnd v E
        · rw [if_pos e, e, List.getD_eq_getElem?_getD, List.getElem?_set_self q]; rfl
        · rw [if_neg e, List.getD_eq_getElem?_getD, List.getElem?_set_ne (Ne.symm e), List.getD_eq_getElem?_getD]
      refine ⟨rfl, fun a h => sI_row h, ?_, fun j hj => ?_, fun j hj => ?_⟩
      · rw [List.length_set]; exact h1
      · rw [List.length_set] at hj
        rw [hg j hj, sI_at, show (sI st 13 (fnd v E) z).2 11 j = st.2 11 j from rfl, show (sI st 13 (fnd v E) z).1 12 j = st.1 12 j from rfl]
        by_cases e : j = fnd v E
        · rw [if_pos e, if_pos e, e]
          exact ⟨(h2 _ q).1, (h2 _ q).2.1, rfl⟩
        · rw [if_neg e, if_neg e]
          exact h2 j hj
      · rw [List.length_set] at hj
        rw [hg j hj]
        by_cases e : j = fnd v E
        · rw [if_pos e]; exact h3 _ q
        · rw [if_neg e]; exact h3 j hj
  · rw [if_neg q, if_neg q]
    refine g_if_lt eX4_letStandFor_9 (fun hb => ?_) (fun hb => ?_)
    · exact g_vret rfl eX4_letStandFor_20 ⟨rfl, ⟨rfl, fun _ _ => rfl, hn⟩⟩
    · exact absurd (show (-1 : Int32) < 0 by decide) hb
end NAMD
