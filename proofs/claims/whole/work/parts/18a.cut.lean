/-! THE MODEL CUTS -/
def mkK (k : Nat) : Nat := if k = 0 then 0 else if k = 1 then 3 else if k = 2 then 1 else if k = 3 then 2 else if k < 10 then k + 16 else if k = 59 then 4 else if k = 58 then 5 else if k = 40 then 6 else if k = 41 then 7 else if k = 43 then 8 else if k = 45 then 9 else if k = 42 then 10 else if k = 61 then 11 else 12
def tkW (B : Nat → Nat) (n k : Nat) : Nat := numF 27 96 B (tkP B n k) (endT B n (tkP B n k) - tkP B n k)
def mtOK (st : St) (B : Nat → Nat) (n : Nat) : Prop := st.1 31 3 = nI n ∧ n ≤ 2000 ∧ ∀ i, i < n → st.1 33 i &&& 255 = nI (B i) ∧ B i < 256
def by0 (B : Nat → Nat) (n i : Nat) : Nat := if i < n then B i else 0
theorem by0_lt {st : St} {B : Nat → Nat} {n : Nat} (h : mtOK st B n) (i : Nat) : by0 B n i < 256 := by
  unfold by0
  split
  · exact (h.2.2 i (by assumption)).2
  · decide
theorem numF_inj {b z : Nat} (hb : 1 < b) {B C : Nat → Nat} {i j : Nat} : ∀ k m, (∀ x, x < k → 1 ≤ B (i + x) - z ∧ B (i + x) - z < b) → (∀ x, x < m → 1 ≤ C (j + x) - z ∧ C (j + x) - z < b) → numF b z B i k = numF b z C j m → k = m ∧ ∀ x, x < k → B (i + x) = C (j + x)
  | 0, 0, _, _, _ => ⟨rfl, fun x hx => absurd hx (Nat.not_lt_zero _)⟩
  | 0, m + 1, _, h2, e => by
    have := h2 m (by omega)
    rw [numF, numF] at e
    omega
  | k + 1, 0, h1, _, e => by
    have := h1 k (by omega)
    rw [numF, numF] at e
    omega
  | k + 1, m + 1, h1, h2, e => by
    have a1 := h1 k (by omega)
    have a2 := h2 m (by omega)
    rw [numF, numF] at e
    have e1 : (numF b z B i k * b + (B (i + k) - z)) % b = B (i + k) - z := by rw [Nat.mul_add_mod_self_right]; exact Nat.mod_eq_of_lt a1.2
    have e2 : (numF b z C j m * b + (C (j + m) - z)) % b = C (j + m) - z := by rw [Nat.mul_add_mod_self_right]; exact Nat.mod_eq_of_lt a2.2
    have e3 : B (i + k) - z = C (j + m) - z := by rw [← e1, ← e2, e]
    have e4 : numF b z B i k = numF b z C j m := by
      have e5 : numF b z B i k * b = numF b z C j m * b := by omega
      exact Nat.eq_of_mul_eq_mul_right (by omega) e5
    obtain ⟨q1, q2⟩ := numF_inj hb k m (fun x hx => h1 x (by omega)) (fun x hx => h2 x (by omega)) e4
    subst q1
    refine ⟨rfl, fun x hx => ?_⟩
    by_cases ex : x = k
    · rw [ex]; omega
    · exact q2 x (by omega)
/-- the words as the model keeps them -/
def kyN (k : Nat) : Nat := numF 27 96 (fun j => (txW k).getD j 0) 0 (txW k).length
def kyOK (st : St) : Prop := ∀ k, k < 6 → st.2 38 k = lN (kyN k)
theorem txW_ok : ∀ k, k < 6 → ∀ x, x < 6 → x < (txW k).length → 97 ≤ (txW k).getD x 0 ∧ (txW k).getD x 0 ≤ 122 := by decide +kernel
theorem kyN_lt : ∀ k, k < 6 → kyN k < 9223372036854775807 := by decide +kernel
theorem ky_eq {B : Nat → Nat} {i m k : Nat} (hk : k < 6) (hl : ∀ x, x < m → ltr (B (i + x))) : numF 27 96 B i m = kyN k ↔ wdF B i m = txW k := by
  rw [wdF_eq]
  constructor
  · intro h
    have h6 := (txW_len k hk).2
    have := numF_inj (by decide) m (txW k).length (fun x hx => by have := hl x hx; omega) (fun x hx => by have := txW_ok k hk x (by omega) hx; rw [Nat.zero_add]; omega) h
    exact ⟨this.1, fun j hj => by have := this.2 j hj; rw [Nat.zero_add] at this; exact this⟩
  · rintro ⟨h1, h2⟩
    unfold kyN
    subst h1
    have key : ∀ a, a ≤ (txW k).length → numF 27 96 B i a = numF 27 96 (fun j => (txW k).getD j 0) 0 a := by
      intro a
      induction a with
      | zero => intro _; rfl
      | succ a ih =>
        intro ha
        rw [numF, numF, ih (by omega), h2 a (by omega), Nat.zero_add]
    exact key _ (Nat.le_refl _)
section CUTM
variable {l : Launch} {D : va_G} {cy : Nat → ClassId}
theorem w_byteAt (st : St) {B : Nat → Nat} {n : Nat} (hT : mtOK st B n) (i : Nat) (hi : i < 100000) : Mi l D cy 0 YX12_byteAt [.ref 31, .int (nI i)] st (fun r u => u = st ∧ r = nI (by0 B n i)) := by
  obtain ⟨h1, h2, h3⟩ := hT
  refine M.ofG [some (.ref 31), some (.int (nI i))] (by decide) (Nat.le_of_ble_eq_true rfl) rfl ?_
  intro xp xe xs xm xa xb xme xc xad xA
  unfold by0
  refine g_ild1 eX12_byteAt_0 ?_
  refine g_ald0 eX12_byteAt_1 ?_
  refine g_getI (ci := 11) (j := 3) rfl (Nat.le_of_ble_eq_true rfl) (Nat.le_of_ble_eq_true rfl) (Nat.le_of_ble_eq_true rfl) rfl fl_X12_187 eX12_byteAt_2 ?_
  rw [h1]
  refine g_icmp_ge eX12_byteAt_5 (fun hb => ?_) (fun hb => ?_)
  · rw [nI_leI (by omega) (by omega)] at hb
    rw [if_neg (by omega)]
    refine g_iconst (v := 0) (by decide) eX12_byteAt_21 ?_
    exact g_iret rfl eX12_byteAt_22 ⟨_, rfl, ⟨rfl, rfl⟩⟩
  · rw [nI_leI (by omega) (by omega)] at hb
    rw [if_pos (by omega)]
    refine g_ald0 eX12_byteAt_8 ?_
    refine g_getR (ci := 11) (j := 2) rfl (Nat.le_of_ble_eq_true rfl) (Nat.le_of_ble_eq_true rfl) (Nat.le_of_ble_eq_true rfl) rfl rfl fl_X12_13 eX12_byteAt_9 ?_
    refine g_ild1 eX12_byteAt_12 ?_
    refine g_bald rfl (Nat.le_of_ble_eq_true rfl) (vp_in_nI (n := i) (N := 2000) (by omega) (by decide)) eX12_byteAt_13 ?_
    rw [nI_clamp (by omega)]
    refine g_sipush (v := 255) (by decide) eX12_byteAt_14 ?_
    refine g_iand eX12_byteAt_17 ?_
    rw [(h3 i (by omega)).1]
    refine g_goto eX12_byteAt_18 ?_
    exact g_iret rfl eX12_byteAt_22 ⟨_, rfl, ⟨rfl, rfl⟩⟩
theorem w_isDigit (st : St) (c : Nat) (hc : c < 256) : Mi l D cy 0 YX12_isDigit [.int (nI c)] st (fun r u => u = st ∧ r = b2 (dgt c)) := by
  have ht : (nI c).toInt = c := nI_toInt (by omega)
  refine M.ofG [some (.int (nI c))] (by decide) (Nat.le_of_ble_eq_true rfl) rfl ?_
  intro xp xe xs xm xa xb xme xc xad xA
  refine g_ild0 eX12_isDigit_0 ?_
  refine g_bipush (v := 48) (by decide) eX12_isDigit_1 ?_
  refine g_icmp_lt eX12_isDigit_3 (fun hb3 => ?_) (fun hb3 => ?_)
  · try simp only [fa_lt, fa_le, fa_eq, Int32.reduceToInt] at hb3
    refine g_iconst (v := 0) (by decide) eX12_isDigit_16 ?_
    refine g_zret (ty := .boolean) rfl (by first | rfl | assumption) eX12_isDigit_17 ⟨_, rfl, ?_⟩
    try dsimp only
    first | exact ⟨rfl, b2_t (by omega)⟩ | exact ⟨rfl, b2_f (by omega)⟩
  · try simp only [fa_lt, fa_le, fa_eq, Int32.reduceToInt] at hb3
    refine g_ild0 eX12_isDigit_6 ?_
    refine g_bipush (v := 57) (by decide) eX12_isDigit_7 ?_
    refine g_icmp_gt eX12_isDigit_9 (fun hb9 => ?_) (fun hb9 => ?_)
    · try simp only [fa_lt, fa_le, fa_eq, Int32.reduceToInt] at hb9
      refine g_iconst (v := 0) (by decide) eX12_isDigit_16 ?_
      refine g_zret (ty := .boolean) rfl (by first | rfl | assumption) eX12_isDigit_17 ⟨_, rfl, ?_⟩
      try dsimp only
      first | exact ⟨rfl, b2_t (by omega)⟩ | exact ⟨rfl, b2_f (by omega)⟩
    · try simp only [fa_lt, fa_le, fa_eq, Int32.reduceToInt] at hb9
      refine g_iconst (v := 1) (by decide) eX12_isDigit_12 ?_
      refine g_goto eX12_isDigit_13 ?_
      refine g_zret (ty := .boolean) rfl (by first | rfl | assumption) eX12_isDigit_17 ⟨_, rfl, ?_⟩
      try dsimp only
      first | exact ⟨rfl, b2_t (by omega)⟩ | exact ⟨rfl, b2_f (by omega)⟩
theorem w_isLetter (st : St) (c : Nat) (hc : c < 256) : Mi l D cy 0 YX12_isLetter [.int (nI c)] st (fun r u => u = st ∧ r = b2 (ltr c)) := by
  have ht : (nI c).toInt = c := nI_toInt (by omega)
  refine M.ofG [some (.int (nI c))] (by decide) (Nat.le_of_ble_eq_true rfl) rfl ?_
  intro xp xe xs xm xa xb xme xc xad xA
  refine g_ild0 eX12_isLetter_0 ?_
  refine g_bipush (v := 97) (by decide) eX12_isLetter_1 ?_
  refine g_icmp_lt eX12_isLetter_3 (fun hb3 => ?_) (fun hb3 => ?_)
  · try simp only [fa_lt, fa_le, fa_eq, Int32.reduceToInt] at hb3
    refine g_iconst (v := 0) (by decide) eX12_isLetter_16 ?_
    refine g_zret (ty := .boolean) rfl (by first | rfl | assumption) eX12_isLetter_17 ⟨_, rfl, ?_⟩
    try dsimp only
    first | exact ⟨rfl, b2_t (by omega)⟩ | exact ⟨rfl, b2_f (by omega)⟩
  · try simp only [fa_lt, fa_le, fa_eq, Int32.reduceToInt] at hb3
    refine g_ild0 eX12_isLetter_6 ?_
    refine g_bipush (v := 122) (by decide) eX12_isLetter_7 ?_
    refine g_icmp_gt eX12_isLetter_9 (fun hb9 => ?_) (fun hb9 => ?_)
    · try simp only [fa_lt, fa_le, fa_eq, Int32.reduceToInt] at hb9
      refine g_iconst (v := 0) (by decide) eX12_isLetter_16 ?_
      refine g_zret (ty := .boolean) rfl (by first | rfl | assumption) eX12_isLetter_17 ⟨_, rfl, ?_⟩
      try dsimp only
      first | exact ⟨rfl, b2_t (by omega)⟩ | exact ⟨rfl, b2_f (by omega)⟩
    · try simp only [fa_lt, fa_le, fa_eq, Int32.reduceToInt] at hb9
      refine g_iconst (v := 1) (by decide) eX12_isLetter_12 ?_
      refine g_goto eX12_isLetter_13 ?_
      refine g_zret (ty := .boolean) rfl (by first | rfl | assumption) eX12_isLetter_17 ⟨_, rfl, ?_⟩
      try dsimp only
      first | exact ⟨rfl, b2_t (by omega)⟩ | exact ⟨rfl, b2_f (by omega)⟩
theorem w_more (st : St) (a c : Nat) (hc : ltr c) : Ml l D cy 0 YX12_more [.long (lN a), .int (nI c)] st (fun r u => u = st ∧ r = lN (a * 27 + (c - 96))) := by
  refine M.ofG [some (.long (lN a)), none, some (.int (nI c))] (by decide) (Nat.le_of_ble_eq_true rfl) rfl ?_
  intro xp xe xs xm xa xb xme xc xad xA
  refine g_ild2 eX12_more_0 ?_
  refine g_if_ne eX12_more_1 (fun hb => ?_) (fun hb => ?_)
  · refine g_ldc2 kc_X12_190 eX12_more_8 ?_
    refine g_lld0 eX12_more_11 ?_
    refine g_lmul eX12_more_12 ?_
    refine g_ild2 eX12_more_13 ?_
    refine g_bipush (v := 97) (by decide) eX12_more_14 ?_
    refine g_isub eX12_more_16 ?_
    refine g_iconst (v := 1) (by decide) eX12_more_17 ?_
    refine g_iadd eX12_more_18 ?_
    rw [show (97 : Int32) = nI 97 from rfl, nI_sub (by omega), show nI (c - 97) + 1 = nI (c - 97 + 1) from nI_1 _]
    refine g_i2l eX12_more_19 ?_
    refine g_ladd eX12_more_20 ?_
    rw [nI_l (by omega), show (27 : Int64) = lN 27 from rfl, lN_mul, lN_add]
    refine g_lret rfl eX12_more_21 ⟨_, rfl, ?_⟩
    try dsimp only
    refine ⟨rfl, ?_⟩
    rw [Nat.mul_comm 27 a, show c - 97 + 1 = c - 96 by omega]
  · exact absurd ((nI_eq (a := c) (b := 0) (by omega) (by omega)).mp hb) (by omega)
theorem sgk : ∀ c, c < 256 → mkK (if sgn c = true then c else 1) = if c = 59 then 4 else if c = 58 then 5 else if c = 40 then 6 else if c = 41 then 7 else if c = 43 then 8 else if c = 45 then 9 else if c = 42 then 10 else if c = 61 then 11 else if c = 44 then 12 else 3 := by decide +kernel
theorem w_sign (st : St) (c : Nat) (hc : c < 256) : Mi l D cy 0 YX12_sign [.int (nI c)] st (fun r u => u = st ∧ r = nI (mkK (if sgn c = true then c else 1))) := by
  have ht : (nI c).toInt = c := nI_toInt (by omega)
  rw [sgk c hc]
  refine M.ofG [some (.int (nI c))] (by decide) (Nat.le_of_ble_eq_true rfl) rfl ?_
  intro xp xe xs xm xa xb xme xc xad xA
  refine g_ild0 eX12_sign_0 ?_
  refine g_bipush (v := 59) (by decide) eX12_sign_1 ?_
  refine g_icmp_ne eX12_sign_3 (fun hb3 => ?_) (fun hb3 => ?_)
  · try simp only [fa_lt, fa_le, fa_eq, Int32.reduceToInt] at hb3
    refine g_ild0 eX12_sign_10 ?_
    refine g_bipush (v := 58) (by decide) eX12_sign_11 ?_
    refine g_icmp_ne eX12_sign_13 (fun hb13 => ?_) (fun hb13 => ?_)
    · try simp only [fa_lt, fa_le, fa_eq, Int32.reduceToInt] at hb13
      refine g_ild0 eX12_sign_20 ?_
      refine g_bipush (v := 40) (by decide) eX12_sign_21 ?_
      refine g_icmp_ne eX12_sign_23 (fun hb23 => ?_) (fun hb23 => ?_)
      · try simp only [fa_lt, fa_le, fa_eq, Int32.reduceToInt] at hb23
        refine g_ild0 eX12_sign_31 ?_
        refine g_bipush (v := 41) (by decide) eX12_sign_32 ?_
        refine g_icmp_ne eX12_sign_34 (fun hb34 => ?_) (fun hb34 => ?_)
        · try simp only [fa_lt, fa_le, fa_eq, Int32.reduceToInt] at hb34
          refine g_ild0 eX12_sign_42 ?_
          refine g_bipush (v := 43) (by decide) eX12_sign_43 ?_
          refine g_icmp_ne eX12_sign_45 (fun hb45 => ?_) (fun hb45 => ?_)
          · try simp only [fa_lt, fa_le, fa_eq, Int32.reduceToInt] at hb45
            refine g_ild0 eX12_sign_53 ?_
            refine g_bipush (v := 45) (by decide) eX12_sign_54 ?_
            refine g_icmp_ne eX12_sign_56 (fun hb56 => ?_) (fun hb56 => ?_)
            · try simp only [fa_lt, fa_le, fa_eq, Int32.reduceToInt] at hb56
              refine g_ild0 eX12_sign_64 ?_
              refine g_bipush (v := 42) (by decide) eX12_sign_65 ?_
              refine g_icmp_ne eX12_sign_67 (fun hb67 => ?_) (fun hb67 => ?_)
              · try simp only [fa_lt, fa_le, fa_eq, Int32.reduceToInt] at hb67
                refine g_ild0 eX12_sign_75 ?_
                refine g_bipush (v := 61) (by decide) eX12_sign_76 ?_
                refine g_icmp_ne eX12_sign_78 (fun hb78 => ?_) (fun hb78 => ?_)
                · try simp only [fa_lt, fa_le, fa_eq, Int32.reduceToInt] at hb78
                  refine g_ild0 eX12_sign_86 ?_
                  refine g_bipush (v := 44) (by decide) eX12_sign_87 ?_
                  refine g_icmp_ne eX12_sign_89 (fun hb89 => ?_) (fun hb89 => ?_)
                  · try simp only [fa_lt, fa_le, fa_eq, Int32.reduceToInt] at hb89
                    refine g_iconst (v := 3) (by decide) eX12_sign_97 ?_
                    refine g_iret rfl eX12_sign_98 ⟨_, rfl, ?_⟩
                    try dsimp only
                    refine ⟨rfl, ?_⟩
                    repeat first | rw [if_neg (by omega)] | rw [if_pos (by omega)]
                    try rfl
                  · try simp only [fa_lt, fa_le, fa_eq, Int32.reduceToInt] at hb89
                    refine g_bipush (v := 12) (by decide) eX12_sign_92 ?_
                    refine g_goto eX12_sign_94 ?_
                    refine g_iret rfl eX12_sign_98 ⟨_, rfl, ?_⟩
                    try dsimp only
                    refine ⟨rfl, ?_⟩
                    repeat first | rw [if_neg (by omega)] | rw [if_pos (by omega)]
                    try rfl
                · try simp only [fa_lt, fa_le, fa_eq, Int32.reduceToInt] at hb78
                  refine g_bipush (v := 11) (by decide) eX12_sign_81 ?_
                  refine g_goto eX12_sign_83 ?_
                  refine g_iret rfl eX12_sign_98 ⟨_, rfl, ?_⟩
                  try dsimp only
                  refine ⟨rfl, ?_⟩
                  repeat first | rw [if_neg (by omega)] | rw [if_pos (by omega)]
                  try rfl
              · try simp only [fa_lt, fa_le, fa_eq, Int32.reduceToInt] at hb67
                refine g_bipush (v := 10) (by decide) eX12_sign_70 ?_
                refine g_goto eX12_sign_72 ?_
                refine g_iret rfl eX12_sign_98 ⟨_, rfl, ?_⟩
                try dsimp only
                refine ⟨rfl, ?_⟩
                repeat first | rw [if_neg (by omega)] | rw [if_pos (by omega)]
                try rfl
            · try simp only [fa_lt, fa_le, fa_eq, Int32.reduceToInt] at hb56
              refine g_bipush (v := 9) (by decide) eX12_sign_59 ?_
              refine g_goto eX12_sign_61 ?_
              refine g_iret rfl eX12_sign_98 ⟨_, rfl, ?_⟩
              try dsimp only
              refine ⟨rfl, ?_⟩
              repeat first | rw [if_neg (by omega)] | rw [if_pos (by omega)]
              try rfl
          · try simp only [fa_lt, fa_le, fa_eq, Int32.reduceToInt] at hb45
            refine g_bipush (v := 8) (by decide) eX12_sign_48 ?_
            refine g_goto eX12_sign_50 ?_
            refine g_iret rfl eX12_sign_98 ⟨_, rfl, ?_⟩
            try dsimp only
            refine ⟨rfl, ?_⟩
            repeat first | rw [if_neg (by omega)] | rw [if_pos (by omega)]
            try rfl
        · try simp only [fa_lt, fa_le, fa_eq, Int32.reduceToInt] at hb34
          refine g_bipush (v := 7) (by decide) eX12_sign_37 ?_
          refine g_goto eX12_sign_39 ?_
          refine g_iret rfl eX12_sign_98 ⟨_, rfl, ?_⟩
          try dsimp only
          refine ⟨rfl, ?_⟩
          repeat first | rw [if_neg (by omega)] | rw [if_pos (by omega)]
          try rfl
      · try simp only [fa_lt, fa_le, fa_eq, Int32.reduceToInt] at hb23
        refine g_bipush (v := 6) (by decide) eX12_sign_26 ?_
        refine g_goto eX12_sign_28 ?_
        refine g_iret rfl eX12_sign_98 ⟨_, rfl, ?_⟩
        try dsimp only
        refine ⟨rfl, ?_⟩
        repeat first | rw [if_neg (by omega)] | rw [if_pos (by omega)]
        try rfl
    · try simp only [fa_lt, fa_le, fa_eq, Int32.reduceToInt] at hb13
      refine g_iconst (v := 5) (by decide) eX12_sign_16 ?_
      refine g_goto eX12_sign_17 ?_
      refine g_iret rfl eX12_sign_98 ⟨_, rfl, ?_⟩
      try dsimp only
      refine ⟨rfl, ?_⟩
      repeat first | rw [if_neg (by omega)] | rw [if_pos (by omega)]
      try rfl
  · try simp only [fa_lt, fa_le, fa_eq, Int32.reduceToInt] at hb3
    refine g_iconst (v := 4) (by decide) eX12_sign_6 ?_
    refine g_goto eX12_sign_7 ?_
    refine g_iret rfl eX12_sign_98 ⟨_, rfl, ?_⟩
    try dsimp only
    refine ⟨rfl, ?_⟩
    repeat first | rw [if_neg (by omega)] | rw [if_pos (by omega)]
    try rfl
/-- a token put down -/
def mtS (st : St) (c : Nat) (k p v : Int32) (w : Int64) : St := (fun a b => if a = 34 ∧ b = c then k else if a = 35 ∧ b = c then p else if a = 36 ∧ b = c then v else if a = 31 ∧ b = 9 then nI (c + 1) else st.1 a b, fun a b => if a = 37 ∧ b = c then w else st.2 a b)
theorem w_token (st : St) (c : Nat) (hc : st.1 31 9 = nI c) (hc3 : c ≤ 300) (k p v : Int32) (w : Int64) : Mv l D cy 0 YX12_token [.ref 31, .int k, .int p, .int v, .long w] st (fun u => u = mtS st c k p v w) := by
  have hin : vp_in (nI c) 303 := vp_in_nI (by omega) (by decide)
  have hcl : (nI c).toNatClampNeg = c := nI_clamp (by omega)
  refine M.ofG [some (.ref 31), some (.int k), some (.int p), some (.int v), some (.long w), none] (by decide) (Nat.le_of_ble_eq_true rfl) rfl ?_
  intro xp xe xs xm xa xb xme xc xad xA
  refine g_ald0 eX12_token_0 ?_
  refine g_getR (ci := 11) (j := 4) rfl (Nat.le_of_ble_eq_true rfl) (Nat.le_of_ble_eq_true rfl) (Nat.le_of_ble_eq_true rfl) rfl rfl fl_X12_16 eX12_token_1 ?_
  refine g_ald0 eX12_token_4 ?_
  refine g_getI (ci := 11) (j := 9) rfl (Nat.le_of_ble_eq_true rfl) (Nat.le_of_ble_eq_true rfl) (Nat.le_of_ble_eq_true rfl) rfl fl_X12_196 eX12_token_5 ?_
  rw [hc]
  refine g_ild1 eX12_token_8 ?_
  refine g_iast rfl (Nat.le_of_ble_eq_true rfl) hin eX12_token_9 ?_
  refine g_ald0 eX12_token_10 ?_
  refine g_getR (ci := 11) (j := 5) rfl (Nat.le_of_ble_eq_true rfl) (Nat.le_of_ble_eq_true rfl) (Nat.le_of_ble_eq_true rfl) rfl rfl fl_X12_20 eX12_token_11 ?_
  refine g_ald0 eX12_token_14 ?_
  refine g_getI (ci := 11) (j := 9) rfl (Nat.le_of_ble_eq_true rfl) (Nat.le_of_ble_eq_true rfl) (Nat.le_of_ble_eq_true rfl) rfl fl_X12_196 eX12_token_15 ?_
  rw [hcl, show (sI st 34 c k).1 31 9 = nI c from hc]
  refine g_ild2 eX12_token_18 ?_
  refine g_iast rfl (Nat.le_of_ble_eq_true rfl) hin eX12_token_19 ?_
  refine g_ald0 eX12_token_20 ?_
  refine g_getR (ci := 11) (j := 6) rfl (Nat.le_of_ble_eq_true rfl) (Nat.le_of_ble_eq_true rfl) (Nat.le_of_ble_eq_true rfl) rfl rfl fl_X12_23 eX12_token_21 ?_
  refine g_ald0 eX12_token_24 ?_
  refine g_getI (ci := 11) (j := 9) rfl (Nat.le_of_ble_eq_true rfl) (Nat.le_of_ble_eq_true rfl) (Nat.le_of_ble_eq_true rfl) rfl fl_X12_196 eX12_token_25 ?_
  rw [hcl, show (sI (sI st 34 c k) 35 c p).1 31 9 = nI c from hc]
  refine g_ild3 eX12_token_28 ?_
  refine g_iast rfl (Nat.le_of_ble_eq_true rfl) hin eX12_token_29 ?_
  refine g_ald0 eX12_token_30 ?_
  refine g_getR (ci := 11) (j := 7) rfl (Nat.le_of_ble_eq_true rfl) (Nat.le_of_ble_eq_true rfl) (Nat.le_of_ble_eq_true rfl) rfl rfl fl_X12_26 eX12_token_31 ?_
  refine g_ald0 eX12_token_34 ?_
  refine g_getI (ci := 11) (j := 9) rfl (Nat.le_of_ble_eq_true rfl) (Nat.le_of_ble_eq_true rfl) (Nat.le_of_ble_eq_true rfl) rfl fl_X12_196 eX12_token_35 ?_
  rw [hcl, show (sI (sI (sI st 34 c k) 35 c p) 36 c v).1 31 9 = nI c from hc]
  refine g_lld4 eX12_token_38 ?_
  refine g_last rfl (Nat.le_of_ble_eq_true rfl) hin eX12_token_40 ?_
  refine g_ald0 eX12_token_41 ?_
  refine g_dup rfl eX12_token_42 ?_
  refine g_getI (ci := 11) (j := 9) rfl (Nat.le_of_ble_eq_true rfl) (Nat.le_of_ble_eq_true rfl) (Nat.le_of_ble_eq_true rfl) rfl fl_X12_196 eX12_token_43 ?_
  rw [hcl, show (sL (sI (sI (sI st 34 c k) 35 c p) 36 c v) 37 c w).1 31 9 = nI c from hc]
  refine g_iconst (v := 1) (by decide) eX12_token_46 ?_
  refine g_iadd eX12_token_47 ?_
  refine g_putI (ci := 11) (j := 9) rfl rfl (Nat.le_of_ble_eq_true rfl) (Nat.le_of_ble_eq_true rfl) (Nat.le_of_ble_eq_true rfl) rfl fl_X12_196 eX12_token_48 ?_
  rw [show nI c + 1 = nI (c + 1) from nI_1 c]
  refine g_vret rfl eX12_token_51 ⟨rfl, ?_⟩
  try dsimp only
  refine St_ext (fun a b => ?_) (fun a b => rfl)
  show (if a = 31 ∧ b = 9 then nI (c + 1) else if a = 36 ∧ b = c then v else if a = 35 ∧ b = c then p else if a = 34 ∧ b = c then k else st.1 a b) = if a = 34 ∧ b = c then k else if a = 35 ∧ b = c then p else if a = 36 ∧ b = c then v else if a = 31 ∧ b = 9 then nI (c + 1) else st.1 a b
  by_cases h1 : a = 31
  · rw [if_neg (c := a = 34 ∧ b = c) (by omega), if_neg (c := a = 35 ∧ b = c) (by omega), if_neg (c := a = 36 ∧ b = c) (by omega), if_neg (c := a = 36 ∧ b = c) (by omega), if_neg (c := a = 35 ∧ b = c) (by omega), if_neg (c := a = 34 ∧ b = c) (by omega)]
  · rw [if_neg (c := a = 31 ∧ b = 9) (by omega), if_neg (c := a = 31 ∧ b = 9) (by omega)]
    by_cases h2 : a = 34 ∧ b = c
    · rw [if_neg (c := a = 36 ∧ b = c) (by omega), if_neg (c := a = 35 ∧ b = c) (by omega), if_pos h2, if_pos h2]
    · rw [if_neg h2, if_neg h2]
      by_cases h3 : a = 35 ∧ b = c
      · rw [if_neg (c := a = 36 ∧ b = c) (by omega), if_pos h3, if_pos h3]
      · rw [if_neg h3, if_neg h3]
end CUTM
