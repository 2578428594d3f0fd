/-! TEXTS: strings that lie outside and are only read -/
theorem rm_ok {a b : Nat} (h : a + 1 ≤ b) : a + 1 ≤ (rmd b).frames ∧ 64 * (a + 1) ≤ (rmd b).locals := ⟨h, by show 64 * (a + 1) ≤ 64 * b; omega⟩
section STR
variable {p : Program} {l : Launch} {e : Env} {R : Room} {s : State} {m : MethodId} {args : Array Value} {below : List Frame} {meth : Method} {c : Code} {D : va_G} {cy : Nat → ClassId} {ad : Nat → Nat} {A : Nat → Prop} {I : MI} {post : Option Value → St → Prop} {pc n : Nat} {L : List (Option Value)} {S : List Value} {st : St}
theorem g_ldcT {x i : Nat} {tx : String} (hi : i < 7) (hx : txL.getD i (0, "") = (x, tx)) (ho : I.2.1 = RX10) (hd : DD I.1 pc (.ldc x) 2 n) (k : G p l e R s m args below meth c D cy ad A I post n L (.ref (116 + i) :: S) st) : G p l e R s m args below meth c D cy ad A I post pc L S st := by
  obtain ⟨h1, h2⟩ := hd
  subst h2
  intro h H locs ls hl hP hD hS
  have hR := h.2.2.2.2.2.2.2.2.2.2.2.2.1 i hi
  rw [hx] at hR
  exact va_ldcS h.1 h.2.1 (own := RX10) (tx := tx) (by rw [← ho]; exact h.2.2.2.2.2.1) hR h1 (k h H locs ls hl hP hD hS)
theorem g_valT {x i : Nat} (hi : i < 7) (hw : Cond.fieldLink I.2.1 x "java/lang/String" "value" "[B" ∈ wsA) (hd : DD I.1 pc (.getfield x) 3 n) (k : G p l e R s m args below meth c D cy ad A I post n L (.ref (123 + i) :: S) st) : G p l e R s m args below meth c D cy ad A I post pc L (.ref (116 + i) :: S) st := by
  obtain ⟨h1, h2⟩ := hd
  subst h2
  exact fun h H locs ls hl hP hD hS => vk_getf h.1 h.2.1 (h.2.2.2.2.2.2.2.2.2.2.2.1.1 i hi).2.2.1 hS h.2.2.2.2.2.1 (h.2.2.2.2.2.2.1 _ hw) (fun _ q => q) h1 (k h H locs ls hl hP hD hS)
theorem g_codT {x i : Nat} (hi : i < 7) (hw : Cond.fieldLink I.2.1 x "java/lang/String" "coder" "B" ∈ wsA) (hd : DD I.1 pc (.getfield x) 3 n) (k : G p l e R s m args below meth c D cy ad A I post n L (.int 0 :: S) st) : G p l e R s m args below meth c D cy ad A I post pc L (.ref (116 + i) :: S) st := by
  obtain ⟨h1, h2⟩ := hd
  subst h2
  exact fun h H locs ls hl hP hD hS => vk_getf h.1 h.2.1 (h.2.2.2.2.2.2.2.2.2.2.2.1.1 i hi).2.1 hS h.2.2.2.2.2.1 (h.2.2.2.2.2.2.1 _ hw) (fun _ q => q) h1 (k h H locs ls hl hP hD hS)
theorem g_lenT {i : Nat} (hi : i < 7) (hd : DD I.1 pc .arraylength 1 n) (k : G p l e R s m args below meth c D cy ad A I post n L (.int (Int32.ofNat (txN.getD i 0)) :: S) st) : G p l e R s m args below meth c D cy ad A I post pc L (.ref (123 + i) :: S) st := by
  obtain ⟨h1, h2⟩ := hd
  subst h2
  exact fun h H locs ls hl hP hD hS => va_tlen h.1 h.2.1 (h.2.2.2.2.2.2.2.2.2.2.2.1.1 i hi).2.2.2 hS rfl h1 (k h H locs ls hl hP hD hS)
theorem g_bldT {i : Nat} {j : Int32} (hi : i < 7) (hin : vp_in j (txN.getD i 0)) (hd : DD I.1 pc .baload 1 n) (k : G p l e R s m args below meth c D cy ad A I post n L (.int ((txB.getD i []).getD j.toNatClampNeg 0) :: S) st) : G p l e R s m args below meth c D cy ad A I post pc L (.int j :: .ref (123 + i) :: S) st := by
  obtain ⟨h1, h2⟩ := hd
  subst h2
  exact fun h H locs ls hl hP hD hS => va_tb h.1 h.2.1 (h.2.2.2.2.2.2.2.2.2.2.2.1.1 i hi).2.2.2 hS hin rfl h1 (k h H locs ls hl hP hD hS)
theorem g_cmpT {x : Nat} (hw : Cond.fieldLink I.2.1 x "java/lang/String" "COMPACT_STRINGS" "Z" ∈ wsA) (hd : DD I.1 pc (.getstatic x) 3 n) (k : G p l e R s m args below meth c D cy ad A I post n L (.int 1 :: S) st) : G p l e R s m args below meth c D cy ad A I post pc L S st := by
  obtain ⟨h1, h2⟩ := hd
  subst h2
  exact fun h H locs ls hl hP hD hS => va_gets h.1 h.2.1 h.2.2.2.2.2.2.2.2.2.2.2.2.2.1 hS h.2.2.2.2.2.1 (h.2.2.2.2.2.2.1 _ hw) (fun _ q => q) h1 (k h H locs ls hl hP hD hS)
theorem g_fmtT {x : Nat} (hw : Cond.fieldLink I.2.1 x "jdk/internal/util/Preconditions" "SIOOBE_FORMATTER" "Ljava/util/function/BiFunction;" ∈ wsA) (hd : DD I.1 pc (.getstatic x) 3 n) (k : ∀ v : Value, (v = .null ∨ v = .ref 130) → G p l e R s m args below meth c D cy ad A I post n L (v :: S) st) : G p l e R s m args below meth c D cy ad A I post pc L S st := by
  obtain ⟨h1, h2⟩ := hd
  subst h2
  intro h H locs ls hl hP hD hS
  rcases h.2.2.2.2.2.2.2.2.2.2.2.2.2.2 with hF | hF
  · exact va_gets h.1 h.2.1 hF hS h.2.2.2.2.2.1 (h.2.2.2.2.2.2.1 _ hw) (fun _ q => q) h1 (k .null (Or.inl rfl) h H locs ls hl hP hD hS)
  · exact va_gets h.1 h.2.1 hF hS h.2.2.2.2.2.1 (h.2.2.2.2.2.2.1 _ hw) (fun _ q => q) h1 (k (.ref 130) (Or.inr rfl) h H locs ls hl hP hD hS)
theorem g_callT {x d i : Nat} {Y : MY} {as S0 : List Value} {post2 : Option Value → St → Prop} {n9 : Nat} (hM : M l D cy d Y (.ref (116 + i) :: as) st post2) (hi : i < 7) (hC : "java/lang/String" = Y.1.cls) (hw : CV I.2.1 x Y n9) (hd : DD I.1 pc (.invokevirtual x) 3 n) (hR : d + 1 ≤ R.frames ∧ 64 * (d + 1) ≤ R.locals) (hn : as.length = n9) (hs : S0 = as.reverse ++ .ref (116 + i) :: S) (hc : (S.map fun v => v.category).sum ≤ 8)
    (kk : ∀ (v : Option Value) (u : St), post2 v u → G p l e R s m args below meth c D cy ad A I post n L (v.toList ++ S) u) : G p l e R s m args below meth c D cy ad A I post pc L S0 st := by
  obtain ⟨h1, h2⟩ := hd
  subst h2
  subst hs
  intro h H locs ls hl hP hD hS
  have hrc := vk_recv h.2.2.2.2.2.2.2.2.2.2.2.1 hi hS
  refine run_G (st := st) (rest := S.map (cv ad)) (post2 := post2) (va_runV (As := as.map (cv ad)) (b := ad (116 + i)) (C := Y.1.cls) (Ts := wsA) ⟨h.1, h.2.1, h.2.2.1, h.2.2.2.2.2.1, h.2.2.2.2.2.2.1⟩ (hM ad H.size) ⟨cb_of hw.1 h.2.2.2.2.2.2.1 hR, h.2.2.2.2.2.2.1 _ hw.2.1, h.2.2.2.2.2.2.1 _ hw.2.2⟩ ⟨pco_blind, by rw [← hC]; exact hrc, pco_at h hP hD hS⟩ rfl (by rw [List.length_map]; exact hn) hl.1 (by show (as.reverse ++ .ref (116 + i) :: S).map (cv ad) = _; rw [List.map_append, List.map_reverse]; rfl) (by show 2 * 0 + _ ≤ 8; rw [cat_S]; omega) h1 ⟨Nat.zero_le _, Nat.zero_le _⟩) hD hS h.2.2.2.2.2.2.2.2.1 (fun v u H1 locs1 hp hP1 hD1 hS1 => ?_)
  rw [stk_v]
  exact kk v u hp h H1 locs1 ls hl hP1 hD1 hS1
theorem g_callTi {x d i : Nat} {Y : MY} {as S0 : List Value} {pp : Int32 → St → Prop} {n9 : Nat} (hM : Mi l D cy d Y (.ref (116 + i) :: as) st pp) (hi : i < 7) (hC : "java/lang/String" = Y.1.cls) (hw : CV I.2.1 x Y n9) (hd : DD I.1 pc (.invokevirtual x) 3 n) (hR : d + 1 ≤ R.frames ∧ 64 * (d + 1) ≤ R.locals) (hn : as.length = n9) (hs : S0 = as.reverse ++ .ref (116 + i) :: S) (hc : (S.map fun v => v.category).sum ≤ 8)
    (kk : ∀ (r : Int32) (u : St), pp r u → G p l e R s m args below meth c D cy ad A I post n L (.int r :: S) u) : G p l e R s m args below meth c D cy ad A I post pc L S0 st :=
  g_callT hM hi hC hw hd hR hn hs hc (fun v u hp => by
    obtain ⟨r, rfl, h⟩ := hp
    exact kk r u h)
theorem g_nlst2 {a0 a1 : Option Value} (hd : DD I.1 pc (.aload_n 2) 1 n) {v : Value} (hv : v = .ref 130) (k : G p l e R s m args below meth c D cy ad A I post n (a0 :: a1 :: some v :: L) (v :: S) st) : G p l e R s m args below meth c D cy ad A I post pc (a0 :: a1 :: some v :: L) S st := by
  subst hv
  exact g_aload_n rfl hd k
end STR
section STRM
variable {l : Launch} {D : va_G} {cy : Nat → ClassId}
theorem fl_J0_38 : Cond.fieldLink RJ0 38 "java/lang/String" "COMPACT_STRINGS" "Z" ∈ wsA := wsA_2 181 rfl rfl
theorem fl_J0_1053 : Cond.fieldLink RJ0 1053 "jdk/internal/util/Preconditions" "SIOOBE_FORMATTER" "Ljava/util/function/BiFunction;" ∈ wsA := wsA_2 197 rfl rfl
theorem fl_J0_9 : Cond.fieldLink RJ0 9 "java/lang/String" "value" "[B" ∈ wsA := wsA_8 224 rfl rfl
theorem fl_J0_15 : Cond.fieldLink RJ0 15 "java/lang/String" "coder" "B" ∈ wsA := wsA_8 225 rfl rfl
theorem j_coder (st : St) {i : Nat} (hi : i < 7) : Mi l D cy 0 YJ0_coder_7d493 [.ref (116 + i)] st (fun r u => u = st ∧ r = 0) := by
  refine M.ofG [some (.ref (116 + i))] (by decide) (Nat.le_of_ble_eq_true rfl) rfl ?_
  intro xp xe xs xm xa xb xme xc xad xA
  refine g_cmpT fl_J0_38 eJ0_coder_7d493_0 ?_
  refine g_if_eq eJ0_coder_7d493_3 (fun hb => ?_) (fun hb => ?_)
  · exact absurd hb (by decide)
  · refine g_ald0 eJ0_coder_7d493_6 ?_
    refine g_codT hi fl_J0_15 eJ0_coder_7d493_7 ?_
    refine g_goto eJ0_coder_7d493_10 ?_
    exact g_zret (ty := .byte) rfl (by first | rfl | assumption) eJ0_coder_7d493_14 ⟨_, rfl, ⟨rfl, rfl⟩⟩
theorem j_isLatin1 (st : St) {i : Nat} (hi : i < 7) : Mi l D cy 0 YJ0_isLatin1_aae02 [.ref (116 + i)] st (fun r u => u = st ∧ r = 1) := by
  refine M.ofG [some (.ref (116 + i))] (by decide) (Nat.le_of_ble_eq_true rfl) rfl ?_
  intro xp xe xs xm xa xb xme xc xad xA
  refine g_cmpT fl_J0_38 eJ0_isLatin1_aae02_0 ?_
  refine g_if_eq eJ0_isLatin1_aae02_3 (fun hb => ?_) (fun hb => ?_)
  · exact absurd hb (by decide)
  · refine g_ald0 eJ0_isLatin1_aae02_6 ?_
    refine g_codT hi fl_J0_15 eJ0_isLatin1_aae02_7 ?_
    refine g_if_ne eJ0_isLatin1_aae02_10 (fun hb2 => ?_) (fun hb2 => ?_)
    · exact absurd rfl hb2
    · refine g_iconst (v := 1) (by decide) eJ0_isLatin1_aae02_13 ?_
      refine g_goto eJ0_isLatin1_aae02_14 ?_
      exact g_zret (ty := .boolean) rfl (by first | rfl | assumption) eJ0_isLatin1_aae02_18 ⟨_, rfl, ⟨rfl, rfl⟩⟩
theorem tx_shr : ∀ i, i < 7 → Int32.ofNat (txN.getD i 0) >>> ((0 : Int32) &&& 31) = Int32.ofNat (txN.getD i 0) := by decide +kernel
theorem j_length (st : St) {i : Nat} (hi : i < 7) : Mi l D cy 1 YJ0_length_8abf5 [.ref (116 + i)] st (fun r u => u = st ∧ r = nI (txN.getD i 0)) := by
  refine M.ofG [some (.ref (116 + i))] (by decide) (Nat.le_of_ble_eq_true rfl) rfl ?_
  intro xp xe xs xm xa xb xme xc xad xA
  refine g_ald0 eJ0_length_8abf5_0 ?_
  refine g_valT hi fl_J0_9 eJ0_length_8abf5_1 ?_
  refine g_lenT hi eJ0_length_8abf5_4 ?_
  refine g_ald0 eJ0_length_8abf5_5 ?_
  refine g_callTi (j_coder st hi) hi rfl cv_J0_335 eJ0_length_8abf5_6 (rm_ok (by omega)) rfl rfl (Nat.le_of_ble_eq_true rfl) (fun r st h => ?_)
  obtain ⟨rfl, rfl⟩ := h
  refine g_ishr eJ0_length_8abf5_9 ?_
  rw [tx_shr i hi]
  exact g_iret rfl eJ0_length_8abf5_10 ⟨_, rfl, ⟨rfl, rfl⟩⟩
theorem j_checkIndex3n (st : St) (k : Nat) {n : Nat} (hk : k < n) (hn : n < 2147483648) : Mi l D cy 0 YJ3_checkIndex_8e157 [.int (nI k), .int (nI n), .null] st (fun r u => u = st ∧ r = nI k) := by
  refine M.ofG [some (.int (nI k)), some (.int (nI n)), some (.null)] (by decide) (Nat.le_of_ble_eq_true rfl) rfl ?_
  intro xp xe xs xm xa xb xme xc xad xA
  refine g_ild0 eJ3_checkIndex_8e157_0 ?_
  refine g_if_lt eJ3_checkIndex_8e157_1 (fun hb => ?_) (fun hb => ?_)
  · exact absurd hb (nI_pos (by omega))
  · refine g_ild0 eJ3_checkIndex_8e157_4 ?_
    refine g_ild1 eJ3_checkIndex_8e157_5 ?_
    refine g_icmp_lt eJ3_checkIndex_8e157_6 (fun hb2 => ?_) (fun hb2 => ?_)
    · refine g_ild0 eJ3_checkIndex_8e157_16 ?_
      exact g_iret rfl eJ3_checkIndex_8e157_17 ⟨_, rfl, ⟨rfl, rfl⟩⟩
    · exact absurd (nI_lt hk (by omega)) hb2
theorem j_checkIndex3r (st : St) (k : Nat) {n : Nat} (hk : k < n) (hn : n < 2147483648) : Mi l D cy 0 YJ3_checkIndex_8e157 [.int (nI k), .int (nI n), .ref 130] st (fun r u => u = st ∧ r = nI k) := by
  refine M.ofG [some (.int (nI k)), some (.int (nI n)), some (.ref 130)] (by decide) (Nat.le_of_ble_eq_true rfl) rfl ?_
  intro xp xe xs xm xa xb xme xc xad xA
  refine g_ild0 eJ3_checkIndex_8e157_0 ?_
  refine g_if_lt eJ3_checkIndex_8e157_1 (fun hb => ?_) (fun hb => ?_)
  · exact absurd hb (nI_pos (by omega))
  · refine g_ild0 eJ3_checkIndex_8e157_4 ?_
    refine g_ild1 eJ3_checkIndex_8e157_5 ?_
    refine g_icmp_lt eJ3_checkIndex_8e157_6 (fun hb2 => ?_) (fun hb2 => ?_)
    · refine g_ild0 eJ3_checkIndex_8e157_16 ?_
      exact g_iret rfl eJ3_checkIndex_8e157_17 ⟨_, rfl, ⟨rfl, rfl⟩⟩
    · exact absurd (nI_lt hk (by omega)) hb2
theorem j_checkIndex3 (st : St) (k : Nat) {n : Nat} (hk : k < n) (hn : n < 2147483648) (v : Value) (hv : v = .null ∨ v = .ref 130) : Mi l D cy 0 YJ3_checkIndex_8e157 [.int (nI k), .int (nI n), v] st (fun r u => u = st ∧ r = nI k) := by
  rcases hv with rfl | rfl
  · exact j_checkIndex3n st k hk hn
  · exact j_checkIndex3r st k hk hn
theorem j_checkIndex (st : St) (k : Nat) {n : Nat} (hk : k < n) (hn : n < 2147483648) : Mv l D cy 1 YJ0_checkIndex_df160 [.int (nI k), .int (nI n)] st (fun u => u = st) := by
  refine M.ofG [some (.int (nI k)), some (.int (nI n))] (by decide) (Nat.le_of_ble_eq_true rfl) rfl ?_
  intro xp xe xs xm xa xb xme xc xad xA
  refine g_ild0 eJ0_checkIndex_df160_0 ?_
  refine g_ild1 eJ0_checkIndex_df160_1 ?_
  refine g_fmtT fl_J0_1053 eJ0_checkIndex_df160_2 (fun v hv => ?_)
  refine g_callSi (j_checkIndex3 st k hk hn v hv) cs_J0_1059 eJ0_checkIndex_df160_5 (rm_ok (by omega)) rfl rfl (Nat.le_of_ble_eq_true rfl) (fun r st h => ?_)
  obtain ⟨rfl, rfl⟩ := h
  refine g_pop rfl eJ0_checkIndex_df160_8 ?_
  exact g_vret rfl eJ0_checkIndex_df160_9 ⟨rfl, rfl⟩
def txC (i k : Nat) : Int32 := (txB.getD i []).getD k 0
theorem tx_chr : ∀ i, i < 7 → ∀ k, k < 9 → ((txB.getD i []).getD k 0 &&& 255).toUInt32 % 65536 = (txC i k).toUInt32 := by decide +kernel
theorem tx_len : ∀ i, i < 7 → txN.getD i 0 ≤ 9 := by decide +kernel
theorem tx_nar : ∀ i, i < 7 → ∀ k, k < 9 → narrow .char (.int (txC i k)) = .int (txC i k) := by
  intro i hi k hk
  have h : ∀ i, i < 7 → ∀ k, k < 9 → (txC i k).toUInt32.toUInt16.toUInt32.toInt32 = txC i k := by decide +kernel
  have := h i hi k hk
  simp only [narrow]
  rw [this]
theorem j_charAt1 (st : St) {i : Nat} (hi : i < 7) (k : Nat) (hk : k < txN.getD i 0) : Mi l D cy 2 YJ1_charAt_3b067 [.ref (123 + i), .int (nI k)] st (fun r u => u = st ∧ r = txC i k) := by
  have h9 := tx_len i hi
  refine M.ofG [some (.ref (123 + i)), some (.int (nI k))] (by decide) (Nat.le_of_ble_eq_true rfl) rfl ?_
  intro xp xe xs xm xa xb xme xc xad xA
  refine g_ild1 eJ1_charAt_3b067_0 ?_
  refine g_ald0 eJ1_charAt_3b067_1 ?_
  refine g_lenT hi eJ1_charAt_3b067_2 ?_
  refine g_callSv (j_checkIndex st k hk (by omega)) cs_J1_9 eJ1_charAt_3b067_3 (rm_ok (by omega)) rfl rfl (Nat.le_of_ble_eq_true rfl) (fun st h => ?_)
  subst h
  refine g_ald0 eJ1_charAt_3b067_6 ?_
  refine g_ild1 eJ1_charAt_3b067_7 ?_
  refine g_bldT hi (vp_in_nI hk (by omega)) eJ1_charAt_3b067_8 ?_
  rw [nI_clamp (by omega)]
  refine g_sipush (v := 255) (by decide) eJ1_charAt_3b067_9 ?_
  refine g_iand eJ1_charAt_3b067_12 ?_
  refine g_i2c eJ1_charAt_3b067_13 ?_
  rw [tx_chr i hi k (by omega), Int32.toInt32_toUInt32]
  refine g_zret (ty := .char) rfl (tx_nar i hi k (by omega)) eJ1_charAt_3b067_14 ⟨_, rfl, rfl, rfl⟩
theorem j_charAt (st : St) {i : Nat} (hi : i < 7) (k : Nat) (hk : k < txN.getD i 0) : Mi l D cy 3 YJ0_charAt_5068e [.ref (116 + i), .int (nI k)] st (fun r u => u = st ∧ r = txC i k) := by
  have h9 := tx_len i hi
  refine M.ofG [some (.ref (116 + i)), some (.int (nI k))] (by decide) (Nat.le_of_ble_eq_true rfl) rfl ?_
  intro xp xe xs xm xa xb xme xc xad xA
  refine g_ald0 eJ0_charAt_5068e_0 ?_
  refine g_callTi (j_isLatin1 st hi) hi rfl cv_J0_492 eJ0_charAt_5068e_1 (rm_ok (by omega)) rfl rfl (Nat.le_of_ble_eq_true rfl) (fun r st h => ?_)
  obtain ⟨rfl, rfl⟩ := h
  refine g_if_eq eJ0_charAt_5068e_4 (fun hb => ?_) (fun hb => ?_)
  · exact absurd hb (by decide)
  · refine g_ald0 eJ0_charAt_5068e_7 ?_
    refine g_valT hi fl_J0_9 eJ0_charAt_5068e_8 ?_
    refine g_ild1 eJ0_charAt_5068e_11 ?_
    refine g_callSi (j_charAt1 st hi k hk) cs_J0_495 eJ0_charAt_5068e_12 (rm_ok (by omega)) rfl rfl (Nat.le_of_ble_eq_true rfl) (fun r st h => ?_)
    obtain ⟨rfl, rfl⟩ := h
    refine g_zret (ty := .char) rfl (tx_nar i hi k (by omega)) eJ0_charAt_5068e_15 ⟨_, rfl, rfl, rfl⟩
end STRM
