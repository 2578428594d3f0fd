/-! READ of the model -/
def rmFr (q : Nat) (st u : St) : Prop := (∀ a, a ≠ 31 → (a < 33 ∨ 62 < a) → u.1 a = st.1 a) ∧ (∀ a, (a < 37 ∨ 62 < a) ∨ a = 38 → u.2 a = st.2 a) ∧ (∀ j, j = 0 ∨ j = 17 ∨ j = 18 ∨ 50 < j → u.1 31 j = st.1 31 j) ∧ (∀ a, a = 39 ∨ a = 40 ∨ a = 42 → ∀ i, i ≠ q → i < 5 → u.1 a i = st.1 a i) ∧ (∀ a, 43 ≤ a ∧ a ≤ 45 → ∀ i, i < 40 * q ∨ 40 * q + 40 ≤ i → u.1 a i = st.1 a i) ∧ ∀ i, i < 4 * q ∨ 4 * q + 4 ≤ i → u.1 41 i = st.1 41 i
theorem rmFr.refl (q : Nat) (st : St) : rmFr q st st := ⟨fun _ _ _ => rfl, fun _ _ => rfl, fun _ _ => rfl, fun _ _ _ _ _ => rfl, fun _ _ _ _ => rfl, fun _ _ => rfl⟩
theorem rmFr.trans {q : Nat} {a b c : St} (h1 : rmFr q a b) (h2 : rmFr q b c) : rmFr q a c := ⟨fun k x y => (h2.1 k x y).trans (h1.1 k x y), fun k x => (h2.2.1 k x).trans (h1.2.1 k x), fun j x => (h2.2.2.1 j x).trans (h1.2.2.1 j x), fun k x i y z => (h2.2.2.2.1 k x i y z).trans (h1.2.2.2.1 k x i y z), fun k x i y => (h2.2.2.2.2.1 k x i y).trans (h1.2.2.2.2.1 k x i y), fun i x => (h2.2.2.2.2.2 i x).trans (h1.2.2.2.2.2 i x)⟩
theorem rm_31 {q : Nat} (st : St) {j : Nat} (x : Int32) (h : ¬ (j = 0 ∨ j = 17 ∨ j = 18 ∨ 50 < j)) : rmFr q st (sI st 31 j x) := ⟨fun a h _ => sI_row h, fun _ _ => rfl, fun i hi => by rw [sI_1, if_neg (by omega)], fun a ha i _ _ => by rw [sI_row (by omega)], fun a ha i _ => by rw [sI_row (by omega)], fun i _ => by rw [sI_row (by decide)]⟩
theorem rm_row {q : Nat} (st : St) {k : Nat} (x : Int32) (h : k = 39 ∨ k = 40) : rmFr q st (sI st k q x) := ⟨fun a _ h2 => sI_row (by omega), fun _ _ => rfl, fun i _ => by rw [sI_row (by omega)], fun a ha i hi _ => by rw [sI_1, if_neg (by omega)], fun a ha i _ => by rw [sI_row (by omega)], fun i _ => by rw [sI_row (by omega)]⟩
theorem rm_cu {q : Nat} {a b : St} (h : cuFr a b) : rmFr q a b := ⟨fun k x y => h.1 k x (by omega) (by omega) (by omega), fun k x => h.2.2 k (by omega), fun j x => h.2.1 j (by omega), fun k x i _ _ => by rw [h.1 k (by omega) (by omega) (by omega) (by omega)], fun k x i _ => by rw [h.1 k (by omega) (by omega) (by omega) (by omega)], fun i _ => by rw [h.1 41 (by decide) (by decide) (by decide) (by decide)]⟩
theorem rm_ex {q : Nat} {a b : St} (h : exFr a b) : rmFr q a b := ⟨fun k x y => h.1 k x (by omega) (by omega) (by omega) (by omega), fun k _ => by rw [h.2.2], fun j x => h.2.1 j (by omega) (by omega) (by omega), fun k x i _ _ => by rw [h.1 k (by omega) (by omega) (by omega) (by omega) (by omega)], fun k x i _ => by rw [h.1 k (by omega) (by omega) (by omega) (by omega) (by omega)], fun i _ => by rw [h.1 41 (by decide) (by decide) (by decide) (by decide) (by decide)]⟩
theorem rm_tl {q : Nat} (hq : q < 4) {a b : St} (h : tlFr a b) (hp : a.1 31 20 = nI q) : rmFr q a b := ⟨fun k x y => h.1 k x (by omega) (by omega), fun k x => h.2.2.1 k (by omega), fun j x => h.2.1 j (by omega) (by omega) (by omega) (by omega) (by omega) (by omega), fun k x i hi h5 => by
    by_cases e : k = 39
    · subst e
      refine h.2.2.2 i (fun z => hi ?_)
      rw [hp] at z
      exact ((nI_eq (by omega) (by omega)).mp z).symm
    · rw [h.1 k (by omega) e (by omega)], fun k x i _ => by rw [h.1 k (by omega) (by omega) (by omega)], fun i _ => by rw [h.1 41 (by decide) (by decide) (by omega)]⟩
theorem rm_la {q : Nat} {a b : St} (h : laF q a b) : rmFr q a b := ⟨fun k x y => h.1 k x (by omega) (by omega) (by omega), fun k x => h.2.2.1 k (by omega) (by omega), fun j x => h.2.1 j (by omega), fun k x i hi _ => by
    by_cases e : k = 42
    · subst e
      exact h.2.2.2.1 i hi
    · rw [h.1 k (by omega) (by omega) (by omega) (by omega)], fun k x i y => h.2.2.2.2.1 k x i y, fun i x => h.2.2.2.2.2 i x⟩
theorem mkG_outs {bs : Nat} {V : Nat → Nat} {cnt : Nat} : ∀ (gs : List GP) (m0 m : MS), (∀ g ∈ gs, g.2.1 = 6 ∨ g.2.1 = 7) → m0.2.2.2.length + n7 gs ≤ 4 → mkG bs V cnt gs m0 = .inr m → m.2.2.2.length = m0.2.2.2.length + n7 gs
  | [], m0, m, _, _, h => by cases h; rfl
  | g :: r, m0, m, hg, h4, h => by
    rw [mkG] at h
    rw [n7] at h4 ⊢
    split at h
    · cases h
    · have e : (enG bs V cnt g m0).2.2.2.length = m0.2.2.2.length + if g.2.1 = 7 then 1 else 0 := by
        unfold enG endP
        rcases hg g List.mem_cons_self with k | k
        · rw [if_pos k, if_neg (by omega), ← (foF_one bs V cnt g.1 m0).2]
          rfl
        · rw [if_neg (by omega), if_pos k]
          rw [if_pos k] at h4
          show (if (foF bs V cnt g.1 m0).2.2.2.length < 4 then _ else _ : List Int).length = _
          rw [(foF_one bs V cnt g.1 m0).2, if_pos (by omega), List.length_append, List.length_singleton]
      rw [mkG_outs r _ m (fun y hy => hg y (List.mem_cons_of_mem _ hy)) (by rw [e]; omega) h, e]
      omega
/-! a byte read unsigned (pasted from kit/laws/BITS) -/
theorem bp_b (x : Int32) : x.toInt8.toInt32 &&& 255 = x &&& 255 := by
  apply Int32.toBitVec_inj.mp
  rw [Int32.toBitVec_and, Int32.toBitVec_and, Int8.toBitVec_toInt32, Int32.toBitVec_toInt8]
  apply BitVec.eq_of_getLsbD_eq
  intro i hi
  rw [BitVec.getLsbD_and, BitVec.getLsbD_and]
  have hm : ∀ i < 32, 8 ≤ i → (255 : Int32).toBitVec.getLsbD i = false := by decide
  rcases Nat.lt_or_ge i 8 with z | z
  · rw [BitVec.getLsbD_signExtend, BitVec.getLsbD_signExtend, if_pos z, if_pos hi]
    simp only [z, hi, decide_true, Bool.true_and]
  · rw [hm i hi z]; simp
def rmPost (t q : Nat) (B : Nat → Nat) (n : Nat) (st : St) (r : Int32) (u : St) : Prop := rmFr q st u ∧ u.1 31 1 = 0 ∧ match redF t B n with
  | .inl e => r = nI e.1 ∧ u.1 31 16 = nI e.2 ∧ u.1 31 19 = nI q
  | .inr x => r = 0 ∧ u.1 31 16 = -1 ∧ u.1 31 19 = nI (q + 1) ∧ u.1 39 q = nI x.1 ∧ mwOK q u x.2.2.1 ∧ u.1 40 q = nI x.2.2.2.2.length ∧ (∀ i, i < x.2.2.2.2.length → (u.1 41 (4 * q + i)).toInt = toldF (x.2.2.2.2.getD i 0)) ∧ x.1 ≤ 6 ∧ x.2.2.2.2.length ≤ 4 ∧ wOK t x.1 x.2.2.1 ∧ ckS t x.1 x.2.2.1.length x.2.2.2.2
section WREAD
variable {l : Launch} {D : va_G} {cy : Nat → ClassId} {bs : Nat}
theorem w_read4 (st s1 : St) (hT : sI st 31 18 0 = s1) (hp : s1.1 31 19 = nI 4) : Mi l D cy 7 YX12_read [.ref 31] st (fun r u => r = -2 ∧ u = s1) := by
  refine M.ofG [some (.ref 31), none] (by decide) (Nat.le_of_ble_eq_true rfl) rfl ?_
  intro xp xe xs xm xa xb xme xc xad xA
  refine g_ald0 eX12_read_0 ?_
  refine g_iconst (v := 0) (by decide) eX12_read_1 ?_
  refine g_putI (ci := 11) (j := 18) rfl rfl (Nat.le_of_ble_eq_true rfl) (Nat.le_of_ble_eq_true rfl) (Nat.le_of_ble_eq_true rfl) rfl fl_X12_177 eX12_read_2 ?_
  rw [hT]
  refine g_ald0 eX12_read_5 ?_
  refine g_getI (ci := 11) (j := 19) rfl (Nat.le_of_ble_eq_true rfl) (Nat.le_of_ble_eq_true rfl) (Nat.le_of_ble_eq_true rfl) rfl fl_X12_241 eX12_read_6 ?_
  rw [hp]
  refine g_iconst (v := 4) (by decide) eX12_read_9 ?_
  refine g_icmp_ne eX12_read_10 (fun hb => ?_) (fun hb => ?_)
  · exact absurd rfl hb
  · refine g_bipush (v := (-2)) (by decide) eX12_read_13 ?_
    exact g_iret rfl eX12_read_15 ⟨_, rfl, ⟨rfl, rfl⟩⟩
theorem w_read (st s1 : St) (hT0 : sI st 31 18 0 = s1) {B : Nat → Nat} {n : Nat} (hn : s1.1 31 1 = nI n) (hn2 : n ≤ 2000) (hB : ∀ i, i < n → s1.1 32 i &&& 255 = nI (B i) ∧ B i < 256) {q : Nat} (hq : q < 4) (hp : s1.1 31 19 = nI q) (hb0 : s1.1 31 17 = nI bs) (h2 : 2 ≤ bs) (h13 : bs ≤ 13) (hky : kyOK s1) : Mi l D cy 7 YX12_read [.ref 31] st (rmPost bs q B n s1) := by
  have qi : vp_in (nI q) 5 := vp_in_nI (by omega) (by decide)
  have qc : (nI q).toNatClampNeg = q := nI_clamp (by omega)
  refine M.ofG [some (.ref 31), none] (by decide) (Nat.le_of_ble_eq_true rfl) rfl ?_
  intro xp xe xs xm xa xb xme xc xad xA
  have T169 : ∀ (u : St) (w p : Nat) (x1 : Option Value), rmFr q s1 u → u.1 31 1 = 0 → u.1 31 19 = nI q → u.1 31 12 = 0 → u.1 31 14 = nI w → 0 < w → w < 10 → u.1 31 15 = nI p → redF bs B n = .inl (w, p) → G xp l xe (rmd (7)) xs xm xa xb xme xc D cy xad xA (YX12_read.2.1, YX12_read.1.cls, YX12_read.2.2.1, YX12_read.2.2.2) (Pi (rmPost bs q B n s1)) 169 ([some (.ref 31), x1]) ([]) (u) := by
    intro u w p x1 hF ht hpr hf hw h0 h9 hwp hR
    refine g_ald0 eX12_read_169 ?_
    refine g_ald0 eX12_read_170 ?_
    refine g_getI (ci := 11) (j := 12) rfl (Nat.le_of_ble_eq_true rfl) (Nat.le_of_ble_eq_true rfl) (Nat.le_of_ble_eq_true rfl) rfl fl_X12_217 eX12_read_171 ?_
    rw [hf]
    refine g_if_le eX12_read_174 (fun hb => ?_) (fun hb => ?_)
    · refine g_ald0 eX12_read_184 ?_
      refine g_getI (ci := 11) (j := 14) rfl (Nat.le_of_ble_eq_true rfl) (Nat.le_of_ble_eq_true rfl) (Nat.le_of_ble_eq_true rfl) rfl fl_X12_226 eX12_read_185 ?_
      rw [hw]
      refine g_if_le eX12_read_188 (fun hb2 => ?_) (fun hb2 => ?_)
      · exact absurd hb2 (nI_nle h0 (by omega))
      · refine g_ald0 eX12_read_191 ?_
        refine g_getI (ci := 11) (j := 15) rfl (Nat.le_of_ble_eq_true rfl) (Nat.le_of_ble_eq_true rfl) (Nat.le_of_ble_eq_true rfl) rfl fl_X12_229 eX12_read_192 ?_
        rw [hwp]
        refine g_goto eX12_read_195 ?_
        refine g_putI (ci := 11) (j := 16) rfl rfl (Nat.le_of_ble_eq_true rfl) (Nat.le_of_ble_eq_true rfl) (Nat.le_of_ble_eq_true rfl) rfl fl_X12_33 eX12_read_199 ?_
        refine g_ald0 eX12_read_202 ?_
        refine g_getI (ci := 11) (j := 12) rfl (Nat.le_of_ble_eq_true rfl) (Nat.le_of_ble_eq_true rfl) (Nat.le_of_ble_eq_true rfl) rfl fl_X12_217 eX12_read_203 ?_
        rw [show (sI u 31 16 (nI p)).1 31 12 = 0 from hf]
        refine g_if_le eX12_read_206 (fun hb3 => ?_) (fun hb3 => ?_)
        · refine g_ald0 eX12_read_214 ?_
          refine g_getI (ci := 11) (j := 14) rfl (Nat.le_of_ble_eq_true rfl) (Nat.le_of_ble_eq_true rfl) (Nat.le_of_ble_eq_true rfl) rfl fl_X12_226 eX12_read_215 ?_
          rw [show (sI u 31 16 (nI p)).1 31 14 = nI w from hw]
          refine g_if_le eX12_read_218 (fun hb4 => ?_) (fun hb4 => ?_)
          · exact absurd hb4 (nI_nle h0 (by omega))
          · refine g_ald0 eX12_read_221 ?_
            refine g_getI (ci := 11) (j := 14) rfl (Nat.le_of_ble_eq_true rfl) (Nat.le_of_ble_eq_true rfl) (Nat.le_of_ble_eq_true rfl) rfl fl_X12_226 eX12_read_222 ?_
            rw [show (sI u 31 16 (nI p)).1 31 14 = nI w from hw]
            refine g_iret rfl eX12_read_225 ⟨_, rfl, ?_⟩
            try dsimp only
            unfold rmPost
            rw [hR]
            exact ⟨hF.trans (rm_31 _ _ (by decide)), ht, rfl, rfl, hpr⟩
        · exact absurd (Int32.le_refl _) hb3
    · exact absurd (Int32.le_refl _) hb
  have TBAD : ∀ (u : St) (w p : Nat) (x1 : Option Value), rmFr q s1 u → u.1 31 1 = 0 → u.1 31 19 = nI q → u.1 31 12 = nI w → 0 < w → w < 10 → u.1 31 13 = nI p → redF bs B n = .inl (w, p) → G xp l xe (rmd (7)) xs xm xa xb xme xc D cy xad xA (YX12_read.2.1, YX12_read.1.cls, YX12_read.2.2.1, YX12_read.2.2.2) (Pi (rmPost bs q B n s1)) 151 ([some (.ref 31), x1]) ([]) (u) := by
    intro u w p x1 hF ht hpr hf h0 h9 hwp hR
    refine g_ald0 eX12_read_151 ?_
    refine g_getI (ci := 11) (j := 12) rfl (Nat.le_of_ble_eq_true rfl) (Nat.le_of_ble_eq_true rfl) (Nat.le_of_ble_eq_true rfl) rfl fl_X12_217 eX12_read_152 ?_
    rw [hf]
    refine g_if_ne eX12_read_155 (fun hb => ?_) (fun hb => ?_)
    · refine g_ald0 eX12_read_169 ?_
      refine g_ald0 eX12_read_170 ?_
      refine g_getI (ci := 11) (j := 12) rfl (Nat.le_of_ble_eq_true rfl) (Nat.le_of_ble_eq_true rfl) (Nat.le_of_ble_eq_true rfl) rfl fl_X12_217 eX12_read_171 ?_
      rw [hf]
      refine g_if_le eX12_read_174 (fun hb1 => ?_) (fun hb1 => ?_)
      · exact absurd hb1 (nI_nle h0 (by omega))
      · refine g_ald0 eX12_read_177 ?_
        refine g_getI (ci := 11) (j := 13) rfl (Nat.le_of_ble_eq_true rfl) (Nat.le_of_ble_eq_true rfl) (Nat.le_of_ble_eq_true rfl) rfl fl_X12_223 eX12_read_178 ?_
        rw [hwp]
        refine g_goto eX12_read_181 ?_
        refine g_putI (ci := 11) (j := 16) rfl rfl (Nat.le_of_ble_eq_true rfl) (Nat.le_of_ble_eq_true rfl) (Nat.le_of_ble_eq_true rfl) rfl fl_X12_33 eX12_read_199 ?_
        refine g_ald0 eX12_read_202 ?_
        refine g_getI (ci := 11) (j := 12) rfl (Nat.le_of_ble_eq_true rfl) (Nat.le_of_ble_eq_true rfl) (Nat.le_of_ble_eq_true rfl) rfl fl_X12_217 eX12_read_203 ?_
        rw [show (sI u 31 16 (nI p)).1 31 12 = nI w from hf]
        refine g_if_le eX12_read_206 (fun hb3 => ?_) (fun hb3 => ?_)
        · exact absurd hb3 (nI_nle h0 (by omega))
        · refine g_ald0 eX12_read_209 ?_
          refine g_getI (ci := 11) (j := 12) rfl (Nat.le_of_ble_eq_true rfl) (Nat.le_of_ble_eq_true rfl) (Nat.le_of_ble_eq_true rfl) rfl fl_X12_217 eX12_read_210 ?_
          rw [show (sI u 31 16 (nI p)).1 31 12 = nI w from hf]
          refine g_iret rfl eX12_read_213 ⟨_, rfl, ?_⟩
          try dsimp only
          unfold rmPost
          rw [hR]
          exact ⟨hF.trans (rm_31 _ _ (by decide)), ht, rfl, rfl, hpr⟩
    · exact absurd hb (nI_ne0 h0 (by omega))
  have TOK : ∀ (u : St) (i : Nat) (m : MS) (x1 : Option Value), rmFr q s1 u → u.1 31 1 = 0 → u.1 31 19 = nI q → u.1 31 12 = 0 → u.1 31 14 = 0 → u.1 31 20 = nI q → u.1 31 38 = nI m.2.2.2.length → u.1 39 q = nI i → mwOK q u m.2.1 → (∀ i, i < m.2.2.2.length → (u.1 41 (4 * q + i)).toInt = toldF (m.2.2.2.getD i 0)) → i ≤ 6 ∧ m.2.2.2.length ≤ 4 ∧ wOK bs i m.2.1 ∧ ckS bs i m.2.1.length m.2.2.2 → redF bs B n = .inr (i, m) → G xp l xe (rmd (7)) xs xm xa xb xme xc D cy xad xA (YX12_read.2.1, YX12_read.1.cls, YX12_read.2.2.1, YX12_read.2.2.2) (Pi (rmPost bs q B n s1)) 169 ([some (.ref 31), x1]) ([]) (u) := by
    intro u i m x1 hF ht hpr hf hw hpg ho hi hm hou hex hR
    refine g_ald0 eX12_read_169 ?_
    refine g_ald0 eX12_read_170 ?_
    refine g_getI (ci := 11) (j := 12) rfl (Nat.le_of_ble_eq_true rfl) (Nat.le_of_ble_eq_true rfl) (Nat.le_of_ble_eq_true rfl) rfl fl_X12_217 eX12_read_171 ?_
    rw [hf]
    refine g_if_le eX12_read_174 (fun hb => ?_) (fun hb => ?_)
    · refine g_ald0 eX12_read_184 ?_
      refine g_getI (ci := 11) (j := 14) rfl (Nat.le_of_ble_eq_true rfl) (Nat.le_of_ble_eq_true rfl) (Nat.le_of_ble_eq_true rfl) rfl fl_X12_226 eX12_read_185 ?_
      rw [hw]
      refine g_if_le eX12_read_188 (fun hb2 => ?_) (fun hb2 => ?_)
      · refine g_iconst (v := (-1)) (by decide) eX12_read_198 ?_
        refine g_putI (ci := 11) (j := 16) rfl rfl (Nat.le_of_ble_eq_true rfl) (Nat.le_of_ble_eq_true rfl) (Nat.le_of_ble_eq_true rfl) rfl fl_X12_33 eX12_read_199 ?_
        refine g_ald0 eX12_read_202 ?_
        refine g_getI (ci := 11) (j := 12) rfl (Nat.le_of_ble_eq_true rfl) (Nat.le_of_ble_eq_true rfl) (Nat.le_of_ble_eq_true rfl) rfl fl_X12_217 eX12_read_203 ?_
        rw [show (sI u 31 16 (-1)).1 31 12 = 0 from hf]
        refine g_if_le eX12_read_206 (fun hb3 => ?_) (fun hb3 => ?_)
        · refine g_ald0 eX12_read_214 ?_
          refine g_getI (ci := 11) (j := 14) rfl (Nat.le_of_ble_eq_true rfl) (Nat.le_of_ble_eq_true rfl) (Nat.le_of_ble_eq_true rfl) rfl fl_X12_226 eX12_read_215 ?_
          rw [show (sI u 31 16 (-1)).1 31 14 = 0 from hw]
          refine g_if_le eX12_read_218 (fun hb4 => ?_) (fun hb4 => ?_)
          · refine g_ald0 eX12_read_226 ?_
            refine g_getR (ci := 11) (j := 22) rfl (Nat.le_of_ble_eq_true rfl) (Nat.le_of_ble_eq_true rfl) (Nat.le_of_ble_eq_true rfl) rfl rfl fl_X12_40 eX12_read_227 ?_
            refine g_ald0 eX12_read_230 ?_
            refine g_getI (ci := 11) (j := 20) rfl (Nat.le_of_ble_eq_true rfl) (Nat.le_of_ble_eq_true rfl) (Nat.le_of_ble_eq_true rfl) rfl fl_X12_250 eX12_read_231 ?_
            rw [show (sI u 31 16 (-1)).1 31 20 = nI q from hpg]
            refine g_ald0 eX12_read_234 ?_
            refine g_getI (ci := 11) (j := 38) rfl (Nat.le_of_ble_eq_true rfl) (Nat.le_of_ble_eq_true rfl) (Nat.le_of_ble_eq_true rfl) rfl fl_X12_265 eX12_read_235 ?_
            rw [show (sI u 31 16 (-1)).1 31 38 = nI m.2.2.2.length from ho]
            refine g_iast rfl (Nat.le_of_ble_eq_true rfl) qi eX12_read_238 ?_
            rw [qc]
            refine g_ald0 eX12_read_239 ?_
            refine g_dup rfl eX12_read_240 ?_
            refine g_getI (ci := 11) (j := 19) rfl (Nat.le_of_ble_eq_true rfl) (Nat.le_of_ble_eq_true rfl) (Nat.le_of_ble_eq_true rfl) rfl fl_X12_241 eX12_read_241 ?_
            rw [show (sI (sI u 31 16 (-1)) 40 q (nI m.2.2.2.length)).1 31 19 = nI q from hpr]
            refine g_iconst (v := 1) (by decide) eX12_read_244 ?_
            refine g_iadd eX12_read_245 ?_
            rw [nI_1]
            refine g_putI (ci := 11) (j := 19) rfl rfl (Nat.le_of_ble_eq_true rfl) (Nat.le_of_ble_eq_true rfl) (Nat.le_of_ble_eq_true rfl) rfl fl_X12_241 eX12_read_246 ?_
            refine g_iconst (v := 0) (by decide) eX12_read_249 ?_
            refine g_iret rfl eX12_read_250 ⟨_, rfl, ?_⟩
            try dsimp only
            unfold rmPost
            rw [hR]
            refine ⟨((hF.trans (rm_31 _ _ (by decide))).trans (rm_row _ _ (Or.inr rfl))).trans (rm_31 _ _ (by decide)), ht, rfl, rfl, rfl, hi, hm, ?_, hou, hex⟩
            rw [sI_row (by decide), sI_at, if_pos rfl]
          · exact absurd (Int32.le_refl _) hb4
        · exact absurd (Int32.le_refl _) hb3
      · exact absurd (Int32.le_refl _) hb2
    · exact absurd (Int32.le_refl _) hb
  have GOOD : ∀ (u : St) (s : GS) (gs : List GP) (C : List (Nat × Nat)) (TL : List TE) (x1 : Option Value), gramF (tkK B n) = .inr s → TK (tkK B n) (tkP B n) (tkV B n) (tkW B n) bs q u s gs C TL → (pmF (tkK B n) (tkP B n) (tkW B n) bs s.2.2).2.1 ≤ 6 → (pmF (tkK B n) (tkP B n) (tkW B n) bs s.2.2).2.2.2.1.length ≤ 4 → rmFr q s1 u → u.1 31 1 = 0 → u.1 31 19 = nI q → G xp l xe (rmd (7)) xs xm xa xb xme xc D cy xad xA (YX12_read.2.1, YX12_read.1.cls, YX12_read.2.2.1, YX12_read.2.2.2) (Pi (rmPost bs q B n s1)) 151 ([some (.ref 31), x1]) ([]) (u) := by
    intro u s gs C TL x1 hg hTK h6 h4 hF ht hpr
    obtain ⟨t1, ⟨Wt, t2⟩, t3, t4, t5, t6, t7⟩ := hTK
    have hgal := gK_gram (K := tkK B n)
    rw [hg] at hgal
    have h300 := hgal.1.1
    have hpl : ∀ j, j < s.1 → tkK B n j ≠ 0 := fun j hj => (t2.1.2.2 j hj).1
    obtain ⟨x, hfr⟩ := faults_same (t := bs) (P := tkP B n) hg h300 name_vw (fun a b hab hb => places_lt hpl hab hb)
    have hsc := scn_ev (t := bs) (V := tkV B n) hg
    have wl := t2.2.2.2.2.1.2.2.1
    have hwp := t2.2.2.2.2.1.2.1
    rcases eS : s.2.2.foldl (cev bs (tkK B n) (tkV B n) s.1) (.inr ([], 0, 0)) with f | sc
    · rw [eS] at hfr hsc
      obtain ⟨f1, f2, f3⟩ := hfr
      have hR : redF bs B n = .inl (f.1, tkP B n f.2) := by unfold redF; rw [hg]; dsimp only; rw [hsc]; rfl
      have hw : u.1 31 14 = nI f.1 := by rw [t2.2.2.2.2.1.1]; show nI (pmF (tkK B n) (tkP B n) (tkW B n) bs s.2.2).2.2.2.2.1 = _; rw [f1]
      dsimp only at wl hwp
      rw [f1] at wl hwp
      refine g_ald0 eX12_read_151 ?_
      refine g_getI (ci := 11) (j := 12) rfl (Nat.le_of_ble_eq_true rfl) (Nat.le_of_ble_eq_true rfl) (Nat.le_of_ble_eq_true rfl) rfl fl_X12_217 eX12_read_152 ?_
      rw [t2.2.1]
      refine g_if_ne eX12_read_155 (fun hb => ?_) (fun hb => ?_)
      · exact absurd rfl hb
      · refine g_ald0 eX12_read_158 ?_
        refine g_getI (ci := 11) (j := 14) rfl (Nat.le_of_ble_eq_true rfl) (Nat.le_of_ble_eq_true rfl) (Nat.le_of_ble_eq_true rfl) rfl fl_X12_226 eX12_read_159 ?_
        rw [hw]
        refine g_if_ne eX12_read_162 (fun hb2 => ?_) (fun hb2 => ?_)
        · exact T169 u f.1 (tkP B n f.2) _ hF ht hpr t2.2.1 hw (by omega) wl (hwp f2) hR
        · exact absurd hb2 (nI_ne0 (by omega) (by omega))
    · rw [eS] at hfr hsc
      obtain ⟨hal, hins, -, hw0, -⟩ := hfr
      have hw : u.1 31 14 = 0 := by rw [t2.2.2.2.2.1.1]; show nI (pmF (tkK B n) (tkP B n) (tkW B n) bs s.2.2).2.2.2.2.1 = _; rw [hw0]; rfl
      obtain ⟨⟨a1, a2, a3⟩, ⟨b1, b2, b3, b4⟩, ⟨c1, c2, c3, c4, c5, c6⟩, d⟩ := t7
      obtain ⟨d1, d2, d3⟩ := d hw0
      have hH := ly_gram (V := tkV B n) hg name_vw a1 a2 a3 hal hw0 h6 d3
      have htb := pm_tb hw0
      have hmem : ∀ k, k < (pmF (tkK B n) (tkP B n) (tkW B n) bs s.2.2).2.2.2.1.length → (pmF (tkK B n) (tkP B n) (tkW B n) bs s.2.2).2.2.2.1.getD k 0 ∈ (pmF (tkK B n) (tkP B n) (tkW B n) bs s.2.2).2.2.2.1 := fun k hk => by
        rw [List.getD_eq_getElem?_getD, List.getElem?_eq_getElem hk]
        exact List.getElem_mem hk
      have hen : ∀ k, k < (pmF (tkK B n) (tkP B n) (tkW B n) bs s.2.2).2.2.2.1.length → ∀ j, j < bs → u.1 50 (13 * k + j) = nI (tnP (tkV B n) s.1 ((pmF (tkK B n) (tkP B n) (tkW B n) bs s.2.2).2.2.2.1.getD k 0) j % bs) := fun k hk j hj => by
        obtain ⟨q1, q2, q3⟩ := htb _ (hmem k hk)
        have q4 := tb_gram hg h300 _ q1
        rw [t6 k hk j (by omega) (by omega)]
        generalize (pmF (tkK B n) (tkP B n) (tkW B n) bs s.2.2).2.2.2.1.getD k 0 = tb at q2 q4
        unfold tnP
        rw [if_pos ⟨by omega, by omega⟩, show ((tb : Int) + 2 + 2 * (j : Int)).toNat = tb + 2 + 2 * j by omega]
      have hG : ∀ g ∈ gs, g.2.2 ≤ 300 ∧ ∀ j, j < g.2.2 → tkK B n j ≠ 0 ∧ tkK B n j ≠ 1 := fun g hg2 => by
        have hm : (g.2.1, g.2.2) ∈ s.2.1 := by
          rw [a1]
          exact List.mem_flatMap.mpr ⟨g, hg2, List.mem_append_right _ List.mem_cons_self⟩
        have := (hgal.1.2.2 _ hm).1
        exact ⟨by have : g.2.2 ≤ s.1 := this; omega, fun j hj => t2.1.2.2 j (by have h9 : g.2.2 ≤ s.1 := this; show j < s.1; omega)⟩
      have hmk : makL bs (tkV B n) s.1 s.2.1 (sc.1, [], [], []) = mkG bs (tkV B n) s.1 gs (sc.1, [], [], []) := by
        rw [a1]
        exact makL_mkG bs (tkV B n) s.1 gs _ a2
      have hR0 : redF bs B n = match mkG bs (tkV B n) s.1 gs (sc.1, [], [], []) with
          | .inl a => .inl (6, tkP B n a)
          | .inr m => .inr (sc.2.1, m) := by
        unfold redF
        rw [hg]
        dsimp only
        rw [hsc]
        show (match makL bs (tkV B n) s.1 s.2.1 (sc.1, [], [], []) with
          | .inl a => Sum.inl (6, tkP B n a)
          | .inr m => Sum.inr (sc.2.1, m) : (Nat × Nat) ⊕ (Nat × MS)) = _
        rw [hmk]
      refine g_ald0 eX12_read_151 ?_
      refine g_getI (ci := 11) (j := 12) rfl (Nat.le_of_ble_eq_true rfl) (Nat.le_of_ble_eq_true rfl) (Nat.le_of_ble_eq_true rfl) rfl fl_X12_217 eX12_read_152 ?_
      rw [t2.2.1]
      refine g_if_ne eX12_read_155 (fun hb => ?_) (fun hb => ?_)
      · exact absurd rfl hb
      · refine g_ald0 eX12_read_158 ?_
        refine g_getI (ci := 11) (j := 14) rfl (Nat.le_of_ble_eq_true rfl) (Nat.le_of_ble_eq_true rfl) (Nat.le_of_ble_eq_true rfl) rfl fl_X12_226 eX12_read_159 ?_
        rw [hw]
        refine g_if_ne eX12_read_162 (fun hb2 => ?_) (fun hb2 => ?_)
        · exact absurd rfl hb2
        · refine g_ald0 eX12_read_165 ?_
          refine g_callVv (ci := 11) (w_lays (cd := cdT (nmL (tkW B n) (pmF (tkK B n) (tkP B n) (tkW B n) bs s.2.2).1) (tkV B n) (tkW B n) bs) (cnt := s.1) u t1.1 t1.2 t2 hw0 h4 t4.2.2.1 (fun h0 => (htb _ (hmem 0 h0)).2.2) hen gs (by rw [← d2]; exact t5) (by omega) (fun i hi => by rw [← d1] at hi ⊢; exact t2.2.2.2.1.2 i hi) (by rw [← d1]; omega) c5 sc.1 hH hG) rfl (Nat.le_of_ble_eq_true rfl) (Nat.le_of_ble_eq_true rfl) rfl cv_X12_274 eX12_read_166 ⟨Nat.le_of_ble_eq_true rfl, Nat.le_of_ble_eq_true rfl⟩ rfl rfl (Nat.le_of_ble_eq_true rfl) (fun u5 h => ?_)
          obtain ⟨v, hv1, hv2, h⟩ := h
          have hF5 := (hF.trans (rm_la hv1)).trans (rm_ex hv2)
          have kp : ∀ j, (j < 10 ∨ 15 < j) → j ≠ 44 → j ≠ 49 → j ≠ 50 → u5.1 31 j = u.1 31 j := fun j x y z w => (hv2.2.1 j x y z).trans (hv1.2.1 j w)
          have ht5 : u5.1 31 1 = 0 := by rw [kp 1 (by decide) (by decide) (by decide) (by decide)]; exact ht
          have hp5 : u5.1 31 19 = nI q := by rw [kp 19 (by decide) (by decide) (by decide) (by decide)]; exact hpr
          rcases eM : mkG bs (tkV B n) s.1 gs (sc.1, [], [], []) with a | m
          · rw [eM] at h hR0
            exact T169 u5 6 (tkP B n a) _ hF5 ht5 hp5 h.2.1 h.2.2.2.2.1.1 (by decide) (by decide) (h.2.2.2.2.1.2.1 (by show (6 : Nat) ≠ 0; decide)) hR0
          · rw [eM] at h hR0
            obtain ⟨rfl, hm, hou⟩ := h
            have hlo := mkG_outs gs _ m (fun g hg2 => (a2 g hg2).1) (by show 0 + n7 gs ≤ 4; omega) eM
            have hlo0 : ([] : List Int).length + n7 gs = n7 gs := Nat.zero_add _
            refine TOK u5 sc.2.1 m _ hF5 ht5 hp5 ?_ ?_ ?_ ?_ ?_ hm hou ⟨by rw [hins]; exact h6, by rw [hlo]; show 0 + n7 gs ≤ 4; omega, by rw [hins]; exact mk_gram h2 hg name_vw a1 a2 a3 hal hw0 eM⟩ hR0
            · rw [hv1.2.1 12 (by decide)]; exact t2.2.1
            · rw [hv1.2.1 14 (by decide)]; exact hw
            · rw [hv1.2.1 20 (by decide)]; exact t1.2.2.1
            · rw [hv1.2.1 38 (by decide), hlo, t4.2.2.2]
              show nI (n7 gs) = nI (0 + n7 gs)
              rw [Nat.zero_add]
            · rw [hv1.1 39 (by decide) (by decide) (by decide) (by decide), hins]; exact t4.1
  have L129 : ∀ (f : Nat) (s : GS) (gs : List GP) (C : List (Nat × Nat)) (TL : List TE) (u : St) (x1 : Option Value), 301 ≤ f + s.1 → tellsL (tkK B n) f (ctp (pmF (tkK B n) (tkP B n) (tkW B n) bs s.2.2) (n7 gs)) s = gramF (tkK B n) → TK (tkK B n) (tkP B n) (tkV B n) (tkW B n) bs q u s gs C TL → (pmF (tkK B n) (tkP B n) (tkW B n) bs s.2.2).2.1 ≤ 6 → (pmF (tkK B n) (tkP B n) (tkW B n) bs s.2.2).2.2.2.1.length ≤ 4 → rmFr q s1 u → u.1 31 1 = 0 → u.1 31 19 = nI q → G xp l xe (rmd (7)) xs xm xa xb xme xc D cy xad xA (YX12_read.2.1, YX12_read.1.cls, YX12_read.2.2.1, YX12_read.2.2.2) (Pi (rmPost bs q B n s1)) 129 ([some (.ref 31), x1]) ([]) (u) := by
    intro f
    induction f with
    | zero =>
      intro s gs C TL u x1 hf hR hTK h6 h4 hF ht hpr
      obtain ⟨Wt, t2⟩ := hTK.2.1
      have : s.1 ≤ 300 := t2.1.2.1
      omega
    | succ f ih =>
      intro s gs C TL u x1 hf hR hTK h6 h4 hF ht hpr
      have hTK9 := hTK
      obtain ⟨t1, ⟨Wt, t2⟩, -⟩ := hTK
      have h300 : s.1 ≤ 300 := t2.1.2.1
      have hv := t1.1 s.1 h300 t2.1.2.2
      rw [tellsL] at hR
      refine g_ald0 eX12_read_129 ?_
      refine g_getI (ci := 11) (j := 12) rfl (Nat.le_of_ble_eq_true rfl) (Nat.le_of_ble_eq_true rfl) (Nat.le_of_ble_eq_true rfl) rfl fl_X12_217 eX12_read_130 ?_
      rw [t2.2.1]
      refine g_if_ne eX12_read_133 (fun hb => ?_) (fun hb => ?_)
      · exact absurd rfl hb
      · refine g_ald0 eX12_read_136 ?_
        refine g_iconst (v := 0) (by decide) eX12_read_137 ?_
        refine g_callVi (ci := 11) (w_is u t1.1 t2 0 (by decide)) rfl (Nat.le_of_ble_eq_true rfl) (Nat.le_of_ble_eq_true rfl) rfl cv_X12_235 eX12_read_138 ⟨Nat.le_of_ble_eq_true rfl, Nat.le_of_ble_eq_true rfl⟩ rfl rfl (Nat.le_of_ble_eq_true rfl) (fun r u h => ?_)
        obtain ⟨rfl, rfl⟩ := h
        refine g_if_ne eX12_read_141 (fun hb2 => ?_) (fun hb2 => ?_)
        · have k0 : tkK B n s.1 = 0 := (mkK_is hv.2.2.2.2.1 (b := 0) (k := 0) (by decide) rfl).mp (b2_ne0.mp hb2)
          rw [if_pos k0] at hR
          exact GOOD u s gs C TL _ hR.symm hTK9 h6 h4 hF ht hpr
        · have k0 : ¬ tkK B n s.1 = 0 := fun z => b2_eq0.mp hb2 (by show mkK (tkK B n s.1) = 0; rw [z]; rfl)
          rw [if_neg k0] at hR
          refine g_ald0 eX12_read_144 ?_
          refine g_callVv (ci := 11) (w_tell u hTK9 h6 h4) rfl (Nat.le_of_ble_eq_true rfl) (Nat.le_of_ble_eq_true rfl) rfl cv_X12_271 eX12_read_145 ⟨Nat.le_of_ble_eq_true rfl, Nat.le_of_ble_eq_true rfl⟩ rfl rfl (Nat.le_of_ble_eq_true rfl) (fun u4 h => ?_)
          obtain ⟨hf4, h⟩ := h
          have hF4 := hF.trans (rm_tl hq hf4 t1.2.2.1)
          have ht4 : u4.1 31 1 = 0 := by rw [hf4.2.1 1 (by decide) (by decide) (by decide) (by decide) (by decide) (by decide)]; exact ht
          have hp4 : u4.1 31 19 = nI q := by rw [hf4.2.1 19 (by decide) (by decide) (by decide) (by decide) (by decide) (by decide)]; exact hpr
          have hgt := gK_tell (K := tkK B n) (ctp (pmF (tkK B n) (tkP B n) (tkW B n) bs s.2.2) (n7 gs)) s h300
          rcases eT : tellF (tkK B n) (ctp (pmF (tkK B n) (tkP B n) (tkW B n) bs s.2.2) (n7 gs)) s with e | s2
          · rw [eT] at h hR
            obtain ⟨f1, f2, f3, f4⟩ := h
            have hR2 : redF bs B n = .inl (e.1, tkP B n e.2) := by unfold redF; rw [← hR]; rfl
            refine g_goto eX12_read_148 ?_
            refine g_ald0 eX12_read_129 ?_
            refine g_getI (ci := 11) (j := 12) rfl (Nat.le_of_ble_eq_true rfl) (Nat.le_of_ble_eq_true rfl) (Nat.le_of_ble_eq_true rfl) rfl fl_X12_217 eX12_read_130 ?_
            rw [f1]
            refine g_if_ne eX12_read_133 (fun hb3 => ?_) (fun hb3 => ?_)
            · exact TBAD u4 e.1 (tkP B n e.2) _ hF4 ht4 hp4 f1 (by omega) (by omega) f2 hR2
            · exact absurd hb3 (nI_ne0 (by omega) (by omega))
          · rw [eT] at h hR hgt
            obtain ⟨gs2, C2, TL2, hT2, hc, hc1, hc2⟩ := h
            have g2 : s.1 + 2 ≤ s2.1 := hgt.1
            have hR2 : tellsL (tkK B n) f (ctF (tkK B n s.1) (ctp (pmF (tkK B n) (tkP B n) (tkW B n) bs s.2.2) (n7 gs))) s2 = gramF (tkK B n) := hR
            rw [← hc] at hR2 hc1 hc2
            refine g_goto eX12_read_148 ?_
            exact ih s2 gs2 C2 TL2 u4 _ (by omega) hR2 hT2 hc1 hc2 hF4 ht4 hp4
  have L52 : ∀ (u : St) (x1 : Option Value), (∀ a, a ≠ 33 → u.1 a = (sI s1 31 3 (nI n)).1 a) → u.2 = s1.2 → (∀ i, i < n → u.1 33 i &&& 255 = nI (B i)) → G xp l xe (rmd (7)) xs xm xa xb xme xc D cy xad xA (YX12_read.2.1, YX12_read.1.cls, YX12_read.2.2.1, YX12_read.2.2.2) (Pi (rmPost bs q B n s1)) 52 ([some (.ref 31), x1]) ([]) (u) := by
    intro u x1 hu1 hu2 hu3
    have hFu : rmFr q s1 u := by
      have h0 : rmFr q (sI s1 31 3 (nI n)) u := ⟨fun a _ y => hu1 a (by omega), fun a _ => by rw [hu2]; rfl, fun j _ => by rw [hu1 31 (by decide)], fun a ha i _ _ => by rw [hu1 a (by omega)], fun a ha i _ => by rw [hu1 a (by omega)], fun i _ => by rw [hu1 41 (by decide)]⟩
      exact (rm_31 _ _ (by decide)).trans h0
    refine g_ald0 eX12_read_52 ?_
    refine g_iconst (v := 0) (by decide) eX12_read_53 ?_
    refine g_putI (ci := 11) (j := 1) rfl rfl (Nat.le_of_ble_eq_true rfl) (Nat.le_of_ble_eq_true rfl) (Nat.le_of_ble_eq_true rfl) rfl fl_X12_180 eX12_read_54 ?_
    refine g_ald0 eX12_read_57 ?_
    have hm : mtOK (sI u 31 1 0) B n := by
      refine ⟨?_, hn2, fun i hi => ⟨?_, (hB i hi).2⟩⟩
      · show u.1 31 3 = nI n
        rw [hu1 31 (by decide)]
        rfl
      · rw [sI_row (by decide)]; exact hu3 i hi
    have hk : kyOK (sI u 31 1 0) := by
      intro k hk
      show u.2 38 k = _
      rw [hu2]
      exact hky k hk
    refine g_callVv (ci := 11) (w_cut (sI u 31 1 0) hm hk) rfl (Nat.le_of_ble_eq_true rfl) (Nat.le_of_ble_eq_true rfl) rfl cv_X12_244 eX12_read_58 ⟨Nat.le_of_ble_eq_true rfl, Nat.le_of_ble_eq_true rfl⟩ rfl rfl (Nat.le_of_ble_eq_true rfl) (fun u2 h => ?_)
    have hv := tv_cut h hn2 (fun i hi => (hB i hi).2)
    have hF2 : rmFr q s1 u2 := (hFu.trans (rm_31 _ _ (by decide))).trans (rm_cu h.1)
    have ht2 : u2.1 31 1 = 0 := by rw [h.1.2.1 1 (by decide)]; rfl
    have hp2 : u2.1 31 19 = nI q := by
      rw [h.1.2.1 19 (by decide)]
      show u.1 31 19 = nI q
      rw [hu1 31 (by decide)]
      exact hp
    have hb2 : u2.1 31 17 = nI bs := by rw [hF2.2.2.1 17 (by decide)]; exact hb0
    clear h hm hk hu1 hu2 hu3 hFu
    refine g_ald0 eX12_read_61 ?_
    refine g_iconst (v := 0) (by decide) eX12_read_62 ?_
    refine g_putI (ci := 11) (j := 10) rfl rfl (Nat.le_of_ble_eq_true rfl) (Nat.le_of_ble_eq_true rfl) (Nat.le_of_ble_eq_true rfl) rfl fl_X12_220 eX12_read_63 ?_
    refine g_ald0 eX12_read_66 ?_
    refine g_iconst (v := 0) (by decide) eX12_read_67 ?_
    refine g_putI (ci := 11) (j := 11) rfl rfl (Nat.le_of_ble_eq_true rfl) (Nat.le_of_ble_eq_true rfl) (Nat.le_of_ble_eq_true rfl) rfl fl_X12_247 eX12_read_68 ?_
    refine g_ald0 eX12_read_71 ?_
    refine g_iconst (v := 0) (by decide) eX12_read_72 ?_
    refine g_putI (ci := 11) (j := 12) rfl rfl (Nat.le_of_ble_eq_true rfl) (Nat.le_of_ble_eq_true rfl) (Nat.le_of_ble_eq_true rfl) rfl fl_X12_217 eX12_read_73 ?_
    refine g_ald0 eX12_read_76 ?_
    refine g_iconst (v := 0) (by decide) eX12_read_77 ?_
    refine g_putI (ci := 11) (j := 14) rfl rfl (Nat.le_of_ble_eq_true rfl) (Nat.le_of_ble_eq_true rfl) (Nat.le_of_ble_eq_true rfl) rfl fl_X12_226 eX12_read_78 ?_
    refine g_ald0 eX12_read_81 ?_
    refine g_ald0 eX12_read_82 ?_
    refine g_getI (ci := 11) (j := 19) rfl (Nat.le_of_ble_eq_true rfl) (Nat.le_of_ble_eq_true rfl) (Nat.le_of_ble_eq_true rfl) rfl fl_X12_241 eX12_read_83 ?_
    rw [show (sI (sI (sI (sI u2 31 10 0) 31 11 0) 31 12 0) 31 14 0).1 31 19 = nI q from hp2]
    refine g_putI (ci := 11) (j := 20) rfl rfl (Nat.le_of_ble_eq_true rfl) (Nat.le_of_ble_eq_true rfl) (Nat.le_of_ble_eq_true rfl) rfl fl_X12_250 eX12_read_86 ?_
    refine g_ald0 eX12_read_89 ?_
    refine g_getR (ci := 11) (j := 21) rfl (Nat.le_of_ble_eq_true rfl) (Nat.le_of_ble_eq_true rfl) (Nat.le_of_ble_eq_true rfl) rfl rfl fl_X12_37 eX12_read_90 ?_
    refine g_ald0 eX12_read_93 ?_
    refine g_getI (ci := 11) (j := 20) rfl (Nat.le_of_ble_eq_true rfl) (Nat.le_of_ble_eq_true rfl) (Nat.le_of_ble_eq_true rfl) rfl fl_X12_250 eX12_read_94 ?_
    rw [show (sI (sI (sI (sI (sI u2 31 10 0) 31 11 0) 31 12 0) 31 14 0) 31 20 (nI q)).1 31 20 = nI q from rfl]
    refine g_iconst (v := 0) (by decide) eX12_read_97 ?_
    refine g_iast rfl (Nat.le_of_ble_eq_true rfl) qi eX12_read_98 ?_
    rw [qc]
    refine g_ald0 eX12_read_99 ?_
    refine g_iconst (v := 0) (by decide) eX12_read_100 ?_
    refine g_putI (ci := 11) (j := 28) rfl rfl (Nat.le_of_ble_eq_true rfl) (Nat.le_of_ble_eq_true rfl) (Nat.le_of_ble_eq_true rfl) rfl fl_X12_253 eX12_read_101 ?_
    refine g_ald0 eX12_read_104 ?_
    refine g_iconst (v := 0) (by decide) eX12_read_105 ?_
    refine g_putI (ci := 11) (j := 32) rfl rfl (Nat.le_of_ble_eq_true rfl) (Nat.le_of_ble_eq_true rfl) (Nat.le_of_ble_eq_true rfl) rfl fl_X12_256 eX12_read_106 ?_
    refine g_ald0 eX12_read_109 ?_
    refine g_iconst (v := 0) (by decide) eX12_read_110 ?_
    refine g_putI (ci := 11) (j := 36) rfl rfl (Nat.le_of_ble_eq_true rfl) (Nat.le_of_ble_eq_true rfl) (Nat.le_of_ble_eq_true rfl) rfl fl_X12_259 eX12_read_111 ?_
    refine g_ald0 eX12_read_114 ?_
    refine g_iconst (v := 0) (by decide) eX12_read_115 ?_
    refine g_putI (ci := 11) (j := 37) rfl rfl (Nat.le_of_ble_eq_true rfl) (Nat.le_of_ble_eq_true rfl) (Nat.le_of_ble_eq_true rfl) rfl fl_X12_262 eX12_read_116 ?_
    refine g_ald0 eX12_read_119 ?_
    refine g_iconst (v := 0) (by decide) eX12_read_120 ?_
    refine g_putI (ci := 11) (j := 38) rfl rfl (Nat.le_of_ble_eq_true rfl) (Nat.le_of_ble_eq_true rfl) (Nat.le_of_ble_eq_true rfl) rfl fl_X12_265 eX12_read_121 ?_
    refine g_ald0 eX12_read_124 ?_
    refine g_iconst (v := 0) (by decide) eX12_read_125 ?_
    refine g_putI (ci := 11) (j := 44) rfl rfl (Nat.le_of_ble_eq_true rfl) (Nat.le_of_ble_eq_true rfl) (Nat.le_of_ble_eq_true rfl) rfl fl_X12_268 eX12_read_126 ?_
    generalize hu3 : sI (sI (sI (sI (sI (sI (sI (sI (sI (sI (sI (sI u2 31 10 0) 31 11 0) 31 12 0) 31 14 0) 31 20 (nI q)) 39 q 0) 31 28 0) 31 32 0) 31 36 0) 31 37 0) 31 38 0) 31 44 0 = u3
    have hF3 : rmFr q s1 u3 := by
      rw [← hu3]
      exact (((((((((((hF2.trans (rm_31 _ _ (by decide))).trans (rm_31 _ _ (by decide))).trans (rm_31 _ _ (by decide))).trans (rm_31 _ _ (by decide))).trans (rm_31 _ _ (by decide))).trans (rm_row _ _ (Or.inl rfl))).trans (rm_31 _ _ (by decide))).trans (rm_31 _ _ (by decide))).trans (rm_31 _ _ (by decide))).trans (rm_31 _ _ (by decide))).trans (rm_31 _ _ (by decide))).trans (rm_31 _ _ (by decide))
    have hfl : (u3.1 31 10 = 0 ∧ u3.1 31 11 = 0 ∧ u3.1 31 12 = 0 ∧ u3.1 31 14 = 0 ∧ u3.1 31 20 = nI q) ∧ u3.1 31 28 = 0 ∧ u3.1 31 32 = 0 ∧ u3.1 31 36 = 0 ∧ u3.1 31 37 = 0 ∧ u3.1 31 38 = 0 ∧ u3.1 31 44 = 0 := by
      rw [← hu3]
      exact ⟨⟨rfl, rfl, rfl, rfl, rfl⟩, rfl, rfl, rfl, rfl, rfl, rfl⟩
    have hi3 : u3.1 39 q = 0 := by
      rw [← hu3, sI_row (by decide), sI_row (by decide), sI_row (by decide), sI_row (by decide), sI_row (by decide), sI_row (by decide), sI_at, if_pos rfl]
    have hkp : u3.1 31 1 = 0 ∧ u3.1 31 19 = nI q ∧ u3.1 31 17 = nI bs := by
      rw [← hu3]
      exact ⟨ht2, hp2, hb2⟩
    have hv3 : tvM (tkK B n) (tkP B n) (tkV B n) (tkW B n) u3 := by
      rw [← hu3]
      exact hv
    clear hu3
    obtain ⟨Wt, w1, w2⟩ := ex_wait u3
    obtain ⟨⟨g1, g2, g3, g4, g5⟩, g6, g7, g8, g9, g10, g11⟩ := hfl
    have hTK : TK (tkK B n) (tkP B n) (tkV B n) (tkW B n) bs q u3 (0, [], []) [] [] [] := by
      refine ⟨⟨hv3, ⟨hkp.2.2, h2, h13⟩, g5, by omega⟩, ⟨Wt, ⟨⟨g1, Nat.zero_le _, fun j hj => absurd hj (Nat.not_lt_zero _)⟩, g3, g2, ⟨g11, fun j hj => absurd hj (Nat.not_lt_zero _)⟩, ⟨g4, fun z => absurd rfl z, by show (0 : Nat) < 10; decide, Nat.zero_le _⟩, w1, w2⟩⟩, ⟨g6, Nat.zero_le _, fun j hj => absurd hj (Nat.not_lt_zero _)⟩, ⟨hi3, g9, g7, g10⟩, ⟨g8, fun j hj => absurd hj (Nat.not_lt_zero _)⟩, fun k hk => absurd hk (Nat.not_lt_zero _), ?_⟩
      refine ⟨⟨rfl, fun g hg => absurd hg List.not_mem_nil, fun x hx => absurd hx List.not_mem_nil⟩, ⟨Nat.le_refl _, Nat.le_refl _, Nat.le_refl _, Nat.le_refl _⟩, ⟨rfl, Nat.le_refl _, Nat.le_refl _, Nat.le_refl _, Nat.zero_le _, rfl⟩, fun _ => ⟨rfl, rfl, fun e he => absurd he List.not_mem_nil⟩⟩
    exact L129 301 (0, [], []) [] [] [] u3 _ (by decide) rfl hTK (Nat.zero_le _) (Nat.zero_le _) hF3 hkp.1 hkp.2.1
  have L26 : ∀ (k i : Nat) (u : St), i + k = n → (∀ a, a ≠ 33 → u.1 a = (sI s1 31 3 (nI n)).1 a) → u.2 = s1.2 → (∀ j, j < i → u.1 33 j &&& 255 = nI (B j)) → G xp l xe (rmd (7)) xs xm xa xb xme xc D cy xad xA (YX12_read.2.1, YX12_read.1.cls, YX12_read.2.2.1, YX12_read.2.2.2) (Pi (rmPost bs q B n s1)) 26 ([some (.ref 31), some (.int (nI i))]) ([]) (u) := by
    intro k
    induction k with
    | zero =>
      intro i u hk hu1 hu2 hu3
      have e0 : i = n := by omega
      subst e0
      refine g_ild1 eX12_read_26 ?_
      refine g_ald0 eX12_read_27 ?_
      refine g_getI (ci := 11) (j := 3) rfl (Nat.le_of_ble_eq_true rfl) (Nat.le_of_ble_eq_true rfl) (Nat.le_of_ble_eq_true rfl) rfl fl_X12_187 eX12_read_28 ?_
      rw [hu1 31 (by decide), show (sI s1 31 3 (nI i)).1 31 3 = nI i from rfl]
      refine g_icmp_ge eX12_read_31 (fun hb => ?_) (fun hb => ?_)
      · exact L52 u _ hu1 hu2 hu3
      · exact absurd (Int32.le_refl _) hb
    | succ k ih =>
      intro i u hk hu1 hu2 hu3
      have ii : vp_in (nI i) 2000 := vp_in_nI (by omega) (by decide)
      have ic : (nI i).toNatClampNeg = i := nI_clamp (by omega)
      refine g_ild1 eX12_read_26 ?_
      refine g_ald0 eX12_read_27 ?_
      refine g_getI (ci := 11) (j := 3) rfl (Nat.le_of_ble_eq_true rfl) (Nat.le_of_ble_eq_true rfl) (Nat.le_of_ble_eq_true rfl) rfl fl_X12_187 eX12_read_28 ?_
      rw [hu1 31 (by decide), show (sI s1 31 3 (nI n)).1 31 3 = nI n from rfl]
      refine g_icmp_ge eX12_read_31 (fun hb => ?_) (fun hb => ?_)
      · exact absurd hb (nI_ge (by omega) (by omega))
      · refine g_ald0 eX12_read_34 ?_
        refine g_getR (ci := 11) (j := 2) rfl (Nat.le_of_ble_eq_true rfl) (Nat.le_of_ble_eq_true rfl) (Nat.le_of_ble_eq_true rfl) rfl rfl fl_X12_13 eX12_read_35 ?_
        refine g_ild1 eX12_read_38 ?_
        refine g_ald0 eX12_read_39 ?_
        refine g_getR (ci := 11) (j := 0) rfl (Nat.le_of_ble_eq_true rfl) (Nat.le_of_ble_eq_true rfl) (Nat.le_of_ble_eq_true rfl) rfl rfl fl_X12_7 eX12_read_40 ?_
        refine g_ild1 eX12_read_43 ?_
        refine g_bald rfl (Nat.le_of_ble_eq_true rfl) ii eX12_read_44 ?_
        refine g_bast rfl (Nat.le_of_ble_eq_true rfl) ii eX12_read_45 ?_
        rw [ic]
        refine g_inc1 rfl (Nat.le_of_ble_eq_true rfl) rfl eX12_read_46 ?_
        rw [inc1]
        refine g_goto eX12_read_49 ?_
        refine ih (i + 1) _ (by omega) (fun a ha => by rw [sI_row ha]; exact hu1 a ha) hu2 (fun j hj => ?_)
        rw [sI_at]
        by_cases e : j = i
        · rw [if_pos e, bp_b, hu1 32 (by decide), e]
          exact (hB i (by omega)).1
        · rw [if_neg e]
          exact hu3 j (by omega)
  refine g_ald0 eX12_read_0 ?_
  refine g_iconst (v := 0) (by decide) eX12_read_1 ?_
  refine g_putI (ci := 11) (j := 18) rfl rfl (Nat.le_of_ble_eq_true rfl) (Nat.le_of_ble_eq_true rfl) (Nat.le_of_ble_eq_true rfl) rfl fl_X12_177 eX12_read_2 ?_
  rw [hT0]
  refine g_ald0 eX12_read_5 ?_
  refine g_getI (ci := 11) (j := 19) rfl (Nat.le_of_ble_eq_true rfl) (Nat.le_of_ble_eq_true rfl) (Nat.le_of_ble_eq_true rfl) rfl fl_X12_241 eX12_read_6 ?_
  rw [hp]
  refine g_iconst (v := 4) (by decide) eX12_read_9 ?_
  refine g_icmp_ne eX12_read_10 (fun hb => ?_) (fun hb => ?_)
  · refine g_ald0 eX12_read_16 ?_
    refine g_ald0 eX12_read_17 ?_
    refine g_getI (ci := 11) (j := 1) rfl (Nat.le_of_ble_eq_true rfl) (Nat.le_of_ble_eq_true rfl) (Nat.le_of_ble_eq_true rfl) rfl fl_X12_180 eX12_read_18 ?_
    rw [hn]
    refine g_putI (ci := 11) (j := 3) rfl rfl (Nat.le_of_ble_eq_true rfl) (Nat.le_of_ble_eq_true rfl) (Nat.le_of_ble_eq_true rfl) rfl fl_X12_187 eX12_read_21 ?_
    refine g_iconst (v := 0) (by decide) eX12_read_24 ?_
    refine g_ist1 rfl (Nat.le_of_ble_eq_true rfl) eX12_read_25 ?_
    exact L26 n 0 _ (by omega) (fun a _ => rfl) rfl (fun j hj => absurd hj (Nat.not_lt_zero _))
  · exact absurd ((nI_eq (a := q) (b := 4) (by omega) (by omega)).mp hb) (by omega)
end WREAD
