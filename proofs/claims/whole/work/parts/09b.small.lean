/-! SealedSums$Tape, SealedSums$SealedRows: small ones -/
section SMALL
variable {l : Launch} {D : va_G} {cy : Nat → ClassId}
def b2 (P : Prop) [Decidable P] : Int32 := if P then 1 else 0
theorem b2_t {P : Prop} [Decidable P] (h : P) : (1 : Int32) = b2 P := by unfold b2; rw [if_pos h]
theorem b2_f {P : Prop} [Decidable P] (h : ¬ P) : (0 : Int32) = b2 P := by unfold b2; rw [if_neg h]
theorem addK {x : Int32} {k : Int} (z : Int32) (hz : z.toInt = k) (h1 : -2147483648 ≤ x.toInt + k) (h2 : x.toInt + k < 2147483648) : (x + z).toInt = x.toInt + k := by
  subst hz
  exact fb_addI h1 h2
theorem m_room5 (st : St) (h : 0 ≤ (st.1 1 1).toInt ∧ (st.1 1 1).toInt ≤ 2000) : Mi l D cy 0 YX9_hasRoomForFive [.ref 1] st (fun r u => u = st ∧ r = b2 ((st.1 1 1).toInt + 20 ≤ 2000)) := by
  have ha := addK (x := st.1 1 1) (k := 20) 20 rfl (by omega) (by omega)
  refine M.ofG [some (.ref 1)] (by decide) (Nat.le_of_ble_eq_true rfl) rfl ?_
  intro xp xe xs xm xa xb xme xc xad xA
  refine g_ald0 eX9_hasRoomForFive_0 ?_
  refine g_getI (ci := 8) (j := 1) rfl (Nat.le_of_ble_eq_true rfl) (Nat.le_of_ble_eq_true rfl) (Nat.le_of_ble_eq_true rfl) rfl fl_X9_13 eX9_hasRoomForFive_1 ?_
  refine g_bipush (v := 20) (by decide) eX9_hasRoomForFive_4 ?_
  refine g_iadd eX9_hasRoomForFive_6 ?_
  refine g_sipush (v := 2000) (by decide) eX9_hasRoomForFive_7 ?_
  refine g_icmp_gt eX9_hasRoomForFive_10 (fun hb10 => ?_) (fun hb10 => ?_)
  · try simp only [fa_lt, fa_le, fa_eq, Int32.reduceToInt] at hb10
    refine g_iconst (v := 0) (by decide) eX9_hasRoomForFive_17 ?_
    refine g_zret (ty := .boolean) rfl (by first | rfl | assumption) eX9_hasRoomForFive_18 ⟨_, rfl, ?_⟩
    try dsimp only
    first | exact ⟨rfl, b2_t (by omega)⟩ | exact ⟨rfl, b2_f (by omega)⟩
  · try simp only [fa_lt, fa_le, fa_eq, Int32.reduceToInt] at hb10
    refine g_iconst (v := 1) (by decide) eX9_hasRoomForFive_13 ?_
    refine g_goto eX9_hasRoomForFive_14 ?_
    refine g_zret (ty := .boolean) rfl (by first | rfl | assumption) eX9_hasRoomForFive_18 ⟨_, rfl, ?_⟩
    try dsimp only
    first | exact ⟨rfl, b2_t (by omega)⟩ | exact ⟨rfl, b2_f (by omega)⟩
theorem m_isFull (st : St) : Mi l D cy 0 YX8_isFull [.ref 17] st (fun r u => u = st ∧ r = b2 (60 ≤ (st.1 17 4).toInt)) := by
  refine M.ofG [some (.ref 17)] (by decide) (Nat.le_of_ble_eq_true rfl) rfl ?_
  intro xp xe xs xm xa xb xme xc xad xA
  refine g_ald0 eX8_isFull_0 ?_
  refine g_getI (ci := 7) (j := 4) rfl (Nat.le_of_ble_eq_true rfl) (Nat.le_of_ble_eq_true rfl) (Nat.le_of_ble_eq_true rfl) rfl fl_X8_24 eX8_isFull_1 ?_
  refine g_bipush (v := 60) (by decide) eX8_isFull_4 ?_
  refine g_icmp_lt eX8_isFull_6 (fun hb6 => ?_) (fun hb6 => ?_)
  · try simp only [fa_lt, fa_le, fa_eq, Int32.reduceToInt] at hb6
    refine g_iconst (v := 0) (by decide) eX8_isFull_13 ?_
    refine g_zret (ty := .boolean) rfl (by first | rfl | assumption) eX8_isFull_14 ⟨_, rfl, ?_⟩
    try dsimp only
    first | exact ⟨rfl, b2_t (by omega)⟩ | exact ⟨rfl, b2_f (by omega)⟩
  · try simp only [fa_lt, fa_le, fa_eq, Int32.reduceToInt] at hb6
    refine g_iconst (v := 1) (by decide) eX8_isFull_9 ?_
    refine g_goto eX8_isFull_10 ?_
    refine g_zret (ty := .boolean) rfl (by first | rfl | assumption) eX8_isFull_14 ⟨_, rfl, ?_⟩
    try dsimp only
    first | exact ⟨rfl, b2_t (by omega)⟩ | exact ⟨rfl, b2_f (by omega)⟩
theorem m_hasRoomFor (st : St) (n : Int32) (h : 0 ≤ (st.1 17 4).toInt ∧ (st.1 17 4).toInt ≤ 60) (hn : 0 ≤ n.toInt ∧ n.toInt ≤ 60) : Mi l D cy 0 YX8_hasRoomFor [.ref 17, .int n] st (fun r u => u = st ∧ r = b2 ((st.1 17 4).toInt + n.toInt ≤ 60)) := by
  have ha := fb_addI (x := st.1 17 4) (y := n) (by omega) (by omega)
  refine M.ofG [some (.ref 17), some (.int n)] (by decide) (Nat.le_of_ble_eq_true rfl) rfl ?_
  intro xp xe xs xm xa xb xme xc xad xA
  refine g_ald0 eX8_hasRoomFor_0 ?_
  refine g_getI (ci := 7) (j := 4) rfl (Nat.le_of_ble_eq_true rfl) (Nat.le_of_ble_eq_true rfl) (Nat.le_of_ble_eq_true rfl) rfl fl_X8_24 eX8_hasRoomFor_1 ?_
  refine g_ild1 eX8_hasRoomFor_4 ?_
  refine g_iadd eX8_hasRoomFor_5 ?_
  refine g_bipush (v := 60) (by decide) eX8_hasRoomFor_6 ?_
  refine g_icmp_gt eX8_hasRoomFor_8 (fun hb8 => ?_) (fun hb8 => ?_)
  · try simp only [fa_lt, fa_le, fa_eq, Int32.reduceToInt] at hb8
    refine g_iconst (v := 0) (by decide) eX8_hasRoomFor_15 ?_
    refine g_zret (ty := .boolean) rfl (by first | rfl | assumption) eX8_hasRoomFor_16 ⟨_, rfl, ?_⟩
    try dsimp only
    first | exact ⟨rfl, b2_t (by omega)⟩ | exact ⟨rfl, b2_f (by omega)⟩
  · try simp only [fa_lt, fa_le, fa_eq, Int32.reduceToInt] at hb8
    refine g_iconst (v := 1) (by decide) eX8_hasRoomFor_11 ?_
    refine g_goto eX8_hasRoomFor_12 ?_
    refine g_zret (ty := .boolean) rfl (by first | rfl | assumption) eX8_hasRoomFor_16 ⟨_, rfl, ?_⟩
    try dsimp only
    first | exact ⟨rfl, b2_t (by omega)⟩ | exact ⟨rfl, b2_f (by omega)⟩
theorem m_at (st : St) (i : Int32) (h : 0 ≤ (st.1 1 1).toInt ∧ (st.1 1 1).toInt ≤ 2000) : Mi l D cy 0 YX9_at [.ref 1, .int i] st (fun r u => u = st ∧ r = if 0 ≤ i.toInt ∧ i.toInt < (st.1 1 1).toInt then st.1 2 i.toNatClampNeg &&& 255 else 256) := by
  refine M.ofG [some (.ref 1), some (.int i)] (by decide) (Nat.le_of_ble_eq_true rfl) rfl ?_
  intro xp xe xs xm xa xb xme xc xad xA
  refine g_ild1 eX9_at_0 ?_
  refine g_if_lt eX9_at_1 (fun hb1 => ?_) (fun hb1 => ?_)
  · try simp only [fa_lt, fa_le, fa_eq, Int32.reduceToInt] at hb1
    refine g_sipush (v := 256) (by decide) eX9_at_25 ?_
    refine g_iret rfl eX9_at_28 ⟨_, rfl, ?_⟩
    try dsimp only
    first | exact ⟨rfl, (if_pos (by omega)).symm⟩ | exact ⟨rfl, (if_neg (by omega)).symm⟩
  · try simp only [fa_lt, fa_le, fa_eq, Int32.reduceToInt] at hb1
    refine g_ild1 eX9_at_4 ?_
    refine g_ald0 eX9_at_5 ?_
    refine g_getI (ci := 8) (j := 1) rfl (Nat.le_of_ble_eq_true rfl) (Nat.le_of_ble_eq_true rfl) (Nat.le_of_ble_eq_true rfl) rfl fl_X9_13 eX9_at_6 ?_
    refine g_icmp_ge eX9_at_9 (fun hb9 => ?_) (fun hb9 => ?_)
    · try simp only [fa_lt, fa_le, fa_eq, Int32.reduceToInt] at hb9
      refine g_sipush (v := 256) (by decide) eX9_at_25 ?_
      refine g_iret rfl eX9_at_28 ⟨_, rfl, ?_⟩
      try dsimp only
      first | exact ⟨rfl, (if_pos (by omega)).symm⟩ | exact ⟨rfl, (if_neg (by omega)).symm⟩
    · try simp only [fa_lt, fa_le, fa_eq, Int32.reduceToInt] at hb9
      refine g_ald0 eX9_at_12 ?_
      refine g_getR (ci := 8) (j := 0) rfl (Nat.le_of_ble_eq_true rfl) (Nat.le_of_ble_eq_true rfl) (Nat.le_of_ble_eq_true rfl) rfl rfl fl_X9_9 eX9_at_13 ?_
      refine g_ild1 eX9_at_16 ?_
      refine g_bald rfl (Nat.le_of_ble_eq_true rfl) (vin (by omega) (by show _ < ((2000 : Nat) : Int); omega)) eX9_at_17 ?_
      refine g_sipush (v := 255) (by decide) eX9_at_18 ?_
      refine g_iand eX9_at_21 ?_
      refine g_goto eX9_at_22 ?_
      refine g_iret rfl eX9_at_28 ⟨_, rfl, ?_⟩
      try dsimp only
      first | exact ⟨rfl, (if_pos (by omega)).symm⟩ | exact ⟨rfl, (if_neg (by omega)).symm⟩
/-- byte k of an int, the highest first -/
def bytI (w : Int32) (k : Nat) : Int32 := (w >>> (nI (24 - 8 * k) &&& 31)).toInt8.toInt32
/-- n bytes written behind len -/
def wrB (f : Nat → Int32) (len : Nat) (b : Nat → Int32) (n : Nat) : Nat → Int32 := fun j => if len ≤ j ∧ j < len + n then b (j - len) else f j
theorem wrB_0 (f : Nat → Int32) (len : Nat) (b : Nat → Int32) : wrB f len b 0 = f := by
  funext j
  unfold wrB
  rw [if_neg (by omega)]
theorem wrB_s (f : Nat → Int32) (len : Nat) (b : Nat → Int32) (n : Nat) : upd (wrB f len b n) (len + n) (b n) = wrB f len b (n + 1) := by
  funext j
  unfold upd wrB
  by_cases h : j = len + n
  · subst h
    rw [if_pos rfl, if_pos (by omega)]
    congr 1
    omega
  · rw [if_neg h]
    by_cases h2 : len ≤ j ∧ j < len + n
    · rw [if_pos h2, if_pos (by omega)]
    · rw [if_neg h2, if_neg (by omega)]
theorem St_ext {a b : St} (h1 : ∀ k j, a.1 k j = b.1 k j) (h2 : ∀ k j, a.2 k j = b.2 k j) : a = b := by
  obtain ⟨a1, a2⟩ := a
  obtain ⟨b1, b2⟩ := b
  congr 1
  · funext k j; exact h1 k j
  · funext k j; exact h2 k j
/-- a row of ints, one int -/
def sR (st : St) (k : Nat) (f : Nat → Int32) : St := (fun a => if a = k then f else st.1 a, st.2)
theorem sR_1 (st : St) (k : Nat) (f : Nat → Int32) (a : Nat) : (sR st k f).1 a = if a = k then f else st.1 a := rfl
theorem sR_2 (st : St) (k : Nat) (f : Nat → Int32) : (sR st k f).2 = st.2 := rfl
theorem sR_same (st : St) (k : Nat) : sR st k (st.1 k) = st := by
  refine St_ext (fun a j => ?_) (fun _ _ => rfl)
  rw [sR_1]
  split
  · rename_i h; rw [h]
  · rfl
theorem sI_same (st : St) (k j : Nat) : sI st k j (st.1 k j) = st := by
  refine St_ext (fun a b => ?_) (fun _ _ => rfl)
  rw [sI_1]
  split
  · rename_i h; rw [h.1, h.2]
  · rfl
/-- the state behind an append of n bytes -/
def apS (st : St) (ib : Nat) (io jo : Nat) (len : Nat) (b : Nat → Int32) (n : Nat) : St := sI (sR st ib (wrB (st.1 ib) len b n)) io jo (nI (len + n))
theorem ap_step (st : St) {ib io jo len n : Nat} (b : Nat → Int32) (h : ib ≠ io) (x : Int32) (hx : x = nI (len + (n + 1))) (j : Nat) (hj : j = len + n) (y : Int32) (hy : y = b n) : sI (sI (apS st ib io jo len b n) ib j y) io jo x = apS st ib io jo len b (n + 1) := by
  subst hx; subst hj; subst hy
  refine St_ext (fun a c => ?_) (fun _ _ => rfl)
  unfold apS
  simp only [sI_1, sR_1]
  by_cases h1 : a = io ∧ c = jo
  · simp [h1]
  · simp only [h1, if_false]
    by_cases h2 : a = ib
    · subst h2
      simp only [true_and, if_true]
      have := congrFun (wrB_s (st.1 a) len b n) c
      unfold upd at this
      exact this
    · simp [h2]
theorem m_append (st : St) (w : Int32) (n : Nat) (hn : st.1 1 1 = nI n) (h : n + 4 ≤ 2000) : Mv l D cy 0 YX9_append [.ref 1, .int w] st (fun u => u = apS st 2 1 1 n (bytI w) 4) := by
  refine M.ofG [some (.ref 1), some (.int w), none] (by decide) (Nat.le_of_ble_eq_true rfl) rfl ?_
  intro xp xe xs xm xa xb xme xc xad xA
  have step : ∀ k : Nat, k < 4 → G xp l xe (rmd (0)) xs xm xa xb xme xc D cy xad xA (YX9_append.2.1, YX9_append.1.cls, YX9_append.2.2.1, YX9_append.2.2.2) (Pv (fun (u : St) => u = apS st 2 1 1 n (bytI w) 4)) 3 ([some (.ref 1), some (.int w), some (.int (nI (24 - 8 * k) + Int32.ofInt (-8)))]) ([]) (apS st 2 1 1 n (bytI w) (k + 1)) → G xp l xe (rmd (0)) xs xm xa xb xme xc D cy xad xA (YX9_append.2.1, YX9_append.1.cls, YX9_append.2.2.1, YX9_append.2.2.2) (Pv (fun (u : St) => u = apS st 2 1 1 n (bytI w) 4)) 3 ([some (.ref 1), some (.int w), some (.int (nI (24 - 8 * k)))]) ([]) (apS st 2 1 1 n (bytI w) k) := by
    intro k hk hk2
    have e1 : (apS st 2 1 1 n (bytI w) k).1 1 1 = nI (n + k) := by simp [apS, sI_1]
    refine g_ild2 eX9_append_3 ?_
    refine g_if_lt eX9_append_4 (fun hb => ?_) (fun hb => ?_)
    · exact absurd hb (nI_pos (by omega))
    · refine g_ald0 eX9_append_7 ?_
      refine g_getI (ci := 8) (j := 1) rfl (Nat.le_of_ble_eq_true rfl) (Nat.le_of_ble_eq_true rfl) (Nat.le_of_ble_eq_true rfl) rfl fl_X9_13 eX9_append_8 ?_
      refine g_sipush (v := 2000) (by decide) eX9_append_11 ?_
      refine g_icmp_ge eX9_append_14 (fun hb2 => ?_) (fun hb2 => ?_)
      · exfalso
        rw [e1, show (2000 : Int32) = nI 2000 from rfl] at hb2
        exact nI_ge (a := n + k) (b := 2000) (by omega) (by omega) hb2
      · refine g_ald0 eX9_append_17 ?_
        refine g_getR (ci := 8) (j := 0) rfl (Nat.le_of_ble_eq_true rfl) (Nat.le_of_ble_eq_true rfl) (Nat.le_of_ble_eq_true rfl) rfl rfl fl_X9_9 eX9_append_18 ?_
        refine g_ald0 eX9_append_21 ?_
        refine g_getI (ci := 8) (j := 1) rfl (Nat.le_of_ble_eq_true rfl) (Nat.le_of_ble_eq_true rfl) (Nat.le_of_ble_eq_true rfl) rfl fl_X9_13 eX9_append_22 ?_
        refine g_ild1 eX9_append_25 ?_
        refine g_ild2 eX9_append_26 ?_
        refine g_ishr eX9_append_27 ?_
        refine g_i2b eX9_append_28 ?_
        refine g_bast rfl (Nat.le_of_ble_eq_true rfl) (by rw [e1]; exact vp_in_nI (n := n + k) (N := 2000) (by omega) (by decide)) eX9_append_29 ?_
        refine g_ald0 eX9_append_30 ?_
        refine g_dup rfl eX9_append_31 ?_
        refine g_getI (ci := 8) (j := 1) rfl (Nat.le_of_ble_eq_true rfl) (Nat.le_of_ble_eq_true rfl) (Nat.le_of_ble_eq_true rfl) rfl fl_X9_13 eX9_append_32 ?_
        refine g_iconst (v := 1) (by decide) eX9_append_35 ?_
        refine g_iadd eX9_append_36 ?_
        refine g_putI (ci := 8) (j := 1) rfl rfl (Nat.le_of_ble_eq_true rfl) (Nat.le_of_ble_eq_true rfl) (Nat.le_of_ble_eq_true rfl) rfl fl_X9_13 eX9_append_37 ?_
        refine g_inc2 rfl (Nat.le_of_ble_eq_true rfl) rfl eX9_append_40 ?_
        have e2 := ap_step st (ib := 2) (io := 1) (jo := 1) (len := n) (n := k) (bytI w) (by decide) ((sI (apS st 2 1 1 n (bytI w) k) 2 ((apS st 2 1 1 n (bytI w) k).1 1 1).toNatClampNeg (w >>> (nI (24 - 8 * k) &&& 31)).toInt8.toInt32.toInt8.toInt32).1 1 1 + 1) (by rw [sI_1, if_neg (fun q => absurd q.1 (by decide)), e1]; exact nI_1 (n + k)) ((apS st 2 1 1 n (bytI w) k).1 1 1).toNatClampNeg (by rw [e1, nI_clamp (by omega)]) ((w >>> (nI (24 - 8 * k) &&& 31)).toInt8.toInt32.toInt8.toInt32) (fb_byte_twice _)
        rw [e2]
        refine g_goto eX9_append_43 ?_
        exact hk2
  refine g_bipush (v := 24) (by decide) eX9_append_0 ?_
  refine g_ist2 rfl (Nat.le_of_ble_eq_true rfl) eX9_append_2 ?_
  have e0 : st = apS st 2 1 1 n (bytI w) 0 := by
    unfold apS
    rw [wrB_0, sR_same]
    show st = sI st 1 1 (nI n)
    rw [← hn, sI_same]
  have go := step 0 (by decide) (step 1 (by decide) (step 2 (by decide) (step 3 (by decide) ?_)))
  · rw [← e0] at go
    exact go
  refine g_ild2 eX9_append_3 ?_
  refine g_if_lt eX9_append_4 (fun hb => ?_) (fun hb => ?_)
  · exact g_vret rfl eX9_append_46 ⟨rfl, rfl⟩
  · exact absurd hb (by decide)
theorem m_add (st : St) (a b c d : Int32) (n : Nat) (hn : st.1 17 4 = nI n) (h : n ≤ 60) : Mi l D cy 1 YX8_add [.ref 17, .int a, .int b, .int c, .int d] st (fun r u => if n = 60 then r = -1 ∧ u = st else r = nI n ∧ u = sI (sI (sI (sI (sI st 18 n a) 19 n b) 20 n c) 21 n d) 17 4 (nI (n + 1))) := by
  have hc : (nI n).toNatClampNeg = n := nI_clamp (by omega)
  have ht : (nI n).toInt = n := nI_toInt (by omega)
  refine M.ofG [some (.ref 17), some (.int a), some (.int b), some (.int c), some (.int d)] (by decide) (Nat.le_of_ble_eq_true rfl) rfl ?_
  intro xp xe xs xm xa xb xme xc xad xA
  refine g_ald0 eX8_add_0 ?_
  refine g_callVi (ci := 7) (m_isFull st) rfl (Nat.le_of_ble_eq_true rfl) (Nat.le_of_ble_eq_true rfl) rfl cv_X8_28 eX8_add_1 ⟨Nat.le_of_ble_eq_true rfl, Nat.le_of_ble_eq_true rfl⟩ rfl rfl (Nat.le_of_ble_eq_true rfl) (fun r u hr => ?_)
  obtain ⟨rfl, rfl⟩ := hr
  rw [hn, ht]
  refine g_if_eq eX8_add_4 (fun hb => ?_) (fun hb => ?_)
  · have hlt : n < 60 := by
      unfold b2 at hb
      split at hb
      · exact absurd hb (by decide)
      · omega
    have hv : ∀ k, k = 60 → vp_in (nI n) k := fun k e => by subst e; exact vp_in_nI hlt (by decide)
    refine g_ald0 eX8_add_9 ?_
    refine g_getR (ci := 7) (j := 0) rfl (Nat.le_of_ble_eq_true rfl) (Nat.le_of_ble_eq_true rfl) (Nat.le_of_ble_eq_true rfl) rfl rfl fl_X8_11 eX8_add_10 ?_
    refine g_ald0 eX8_add_13 ?_
    refine g_getI (ci := 7) (j := 4) rfl (Nat.le_of_ble_eq_true rfl) (Nat.le_of_ble_eq_true rfl) (Nat.le_of_ble_eq_true rfl) rfl fl_X8_24 eX8_add_14 ?_
    refine g_ild1 eX8_add_17 ?_
    refine g_iast rfl (Nat.le_of_ble_eq_true rfl) (by simp only [sI_1, hn]; exact hv _ rfl) eX8_add_18 ?_
    refine g_ald0 eX8_add_19 ?_
    refine g_getR (ci := 7) (j := 1) rfl (Nat.le_of_ble_eq_true rfl) (Nat.le_of_ble_eq_true rfl) (Nat.le_of_ble_eq_true rfl) rfl rfl fl_X8_15 eX8_add_20 ?_
    refine g_ald0 eX8_add_23 ?_
    refine g_getI (ci := 7) (j := 4) rfl (Nat.le_of_ble_eq_true rfl) (Nat.le_of_ble_eq_true rfl) (Nat.le_of_ble_eq_true rfl) rfl fl_X8_24 eX8_add_24 ?_
    refine g_ild2 eX8_add_27 ?_
    refine g_iast rfl (Nat.le_of_ble_eq_true rfl) (by simp only [sI_1]; simp only [Nat.reduceEqDiff, false_and, if_false, hn]; exact hv _ rfl) eX8_add_28 ?_
    refine g_ald0 eX8_add_29 ?_
    refine g_getR (ci := 7) (j := 2) rfl (Nat.le_of_ble_eq_true rfl) (Nat.le_of_ble_eq_true rfl) (Nat.le_of_ble_eq_true rfl) rfl rfl fl_X8_18 eX8_add_30 ?_
    refine g_ald0 eX8_add_33 ?_
    refine g_getI (ci := 7) (j := 4) rfl (Nat.le_of_ble_eq_true rfl) (Nat.le_of_ble_eq_true rfl) (Nat.le_of_ble_eq_true rfl) rfl fl_X8_24 eX8_add_34 ?_
    refine g_ild3 eX8_add_37 ?_
    refine g_iast rfl (Nat.le_of_ble_eq_true rfl) (by simp only [sI_1]; simp only [Nat.reduceEqDiff, false_and, if_false, hn]; exact hv _ rfl) eX8_add_38 ?_
    refine g_ald0 eX8_add_39 ?_
    refine g_getR (ci := 7) (j := 3) rfl (Nat.le_of_ble_eq_true rfl) (Nat.le_of_ble_eq_true rfl) (Nat.le_of_ble_eq_true rfl) rfl rfl fl_X8_21 eX8_add_40 ?_
    refine g_ald0 eX8_add_43 ?_
    refine g_getI (ci := 7) (j := 4) rfl (Nat.le_of_ble_eq_true rfl) (Nat.le_of_ble_eq_true rfl) (Nat.le_of_ble_eq_true rfl) rfl fl_X8_24 eX8_add_44 ?_
    refine g_ild4 eX8_add_47 ?_
    refine g_iast rfl (Nat.le_of_ble_eq_true rfl) (by simp only [sI_1]; simp only [Nat.reduceEqDiff, false_and, if_false, hn]; exact hv _ rfl) eX8_add_49 ?_
    refine g_ald0 eX8_add_50 ?_
    refine g_dup rfl eX8_add_51 ?_
    refine g_getI (ci := 7) (j := 4) rfl (Nat.le_of_ble_eq_true rfl) (Nat.le_of_ble_eq_true rfl) (Nat.le_of_ble_eq_true rfl) rfl fl_X8_24 eX8_add_52 ?_
    refine g_iconst (v := 1) (by decide) eX8_add_55 ?_
    refine g_iadd eX8_add_56 ?_
    refine g_putI (ci := 7) (j := 4) rfl rfl (Nat.le_of_ble_eq_true rfl) (Nat.le_of_ble_eq_true rfl) (Nat.le_of_ble_eq_true rfl) rfl fl_X8_24 eX8_add_57 ?_
    refine g_ald0 eX8_add_60 ?_
    refine g_getI (ci := 7) (j := 4) rfl (Nat.le_of_ble_eq_true rfl) (Nat.le_of_ble_eq_true rfl) (Nat.le_of_ble_eq_true rfl) rfl fl_X8_24 eX8_add_61 ?_
    refine g_iconst (v := 1) (by decide) eX8_add_64 ?_
    refine g_isub eX8_add_65 ?_
    refine g_iret rfl eX8_add_66 ⟨_, rfl, ?_⟩
    try dsimp only
    simp only [sI_1, Nat.reduceEqDiff, false_and, if_false, hn, and_self, if_true, hc, nI_1]
    rw [if_neg (by omega)]
    exact ⟨nI_pred n, trivial⟩
  · have hge : n = 60 := by
      unfold b2 at hb
      split at hb
      · omega
      · exact absurd rfl hb
    refine g_iconst (v := (-1)) (by decide) eX8_add_7 ?_
    refine g_iret rfl eX8_add_8 ⟨_, rfl, ?_⟩
    try dsimp only
    rw [if_pos hge]
    exact ⟨rfl, rfl⟩
end SMALL
