/-! word(..), and the two big constructors (written by wip/tools/gen25.py) -/
section IB
variable {l : Launch} {D : va_G} {cy : Nat → ClassId} {ad : Nat → Nat} {bs : Nat}
def z0 : St := (fun _ _ => 0, fun _ _ => 0)
def moF (x : Int64) (ch : Int32) : Int64 := if ch = 0 then x else 27 * x + (ch - 97 + 1).toInt64
def woF (a0 a1 a2 a3 a4 a5 a6 : Int32) : Int64 := moF (moF (moF (moF (moF (moF (moF 0 a0) a1) a2) a3) a4) a5) a6
theorem n_ldc2 {p : Program} {e : Env} {R : Room} {s : State} {m : MethodId} {args : Array Value} {below : List Frame} {meth : Method} {c : Code} {A : Nat → Prop} {I : MI} {Q : State → Prop} {kc ks : Nat} {Hp : Heap → Prop} {pc n x : Nat} {L : List (Option Value)} {S : List Value} {w : va_W} {v : Int64} (hw : Cond.constantLong I.2.1 x v ∈ wsA) (hd : DD I.1 pc (.ldc2_w x) 3 n) (k : GN p l e R s m args below meth c D cy ad A I Q kc ks Hp n L (.long v :: S) w) : GN p l e R s m args below meth c D cy ad A I Q kc ks Hp pc L S w := by
  obtain ⟨h1, h2⟩ := hd
  subst h2
  exact fun h H locs ls hl hP hD hS hH => lv_ldc2 h.1 h.2.1 h.2.2.2.2.2.1 (h.2.2.2.2.2.2.1 _ hw) h1 (k h H locs ls hl hP hD hS hH)
theorem i_more (x : Int64) (ch : Int32) (na : Nat) (Lr : RL9) (st : St) : MB l D cy ad bs 0 0 0 YX12_more (fun _ => True) [.long x, .int ch] na Lr st (some (.long (moF x ch))) na Lr st := by
  refine MB.ofG [some (.long x), none, some (.int ch)] (by decide) (Nat.le_of_ble_eq_true rfl) rfl ?_
  intro p e s m args below meth c hin hB
  refine n_ild2 eX12_more_0 ?_
  refine n_if_ne eX12_more_1 (fun h => ?_) (fun h => ?_)
  · rw [show moF x ch = 27 * x + (ch - 97 + 1).toInt64 from if_neg h]
    refine n_ldc2 kc_X12_190 eX12_more_8 ?_
    refine n_lld0 eX12_more_11 ?_
    refine n_lmul eX12_more_12 ?_
    refine n_ild2 eX12_more_13 ?_
    refine n_bipush (v := 97) (by decide) eX12_more_14 ?_
    refine n_isub eX12_more_16 ?_
    refine n_iconst (v := 1) (by decide) eX12_more_17 ?_
    refine n_iadd eX12_more_18 ?_
    refine n_i2l eX12_more_19 ?_
    refine n_ladd eX12_more_20 ?_
    exact b_lret rfl (Nat.le_of_ble_eq_true rfl) (Nat.le_of_ble_eq_true rfl) eX12_more_21
  · rw [show moF x ch = x from if_pos h]
    refine n_lld0 eX12_more_4 ?_
    refine n_goto eX12_more_5 ?_
    exact b_lret rfl (Nat.le_of_ble_eq_true rfl) (Nat.le_of_ble_eq_true rfl) eX12_more_21
theorem i_word (a0 a1 a2 a3 a4 a5 a6 : Int32) (na : Nat) (Lr : RL9) (st : St) : MB l D cy ad bs 1 0 0 YX12_word (fun _ => True) [.int a0, .int a1, .int a2, .int a3, .int a4, .int a5, .int a6] na Lr st (some (.long (woF a0 a1 a2 a3 a4 a5 a6))) na Lr st := by
  refine MB.ofG [some (.int a0), some (.int a1), some (.int a2), some (.int a3), some (.int a4), some (.int a5), some (.int a6)] (by decide) (Nat.le_of_ble_eq_true rfl) rfl ?_
  intro p e s m args below meth c hin hB
  refine n_lconst (v := 0) (by decide) eX12_word_0 ?_
  refine n_ild0 eX12_word_1 ?_
  refine b_callS (S := []) (as := [.long (0), .int a0]) (B := fun _ => True) (i_more _ _ _ _ _) cs_X12_192 eX12_word_2 ⟨Nat.le_of_ble_eq_true rfl, Nat.le_of_ble_eq_true rfl⟩ ⟨Nat.le_of_ble_eq_true rfl, Nat.le_of_ble_eq_true rfl⟩ rfl rfl (Nat.le_of_ble_eq_true rfl) (fun _ _ _ _ h => h) (fun _ _ _ _ _ _ => trivial) ?_
  refine n_ild1 eX12_word_5 ?_
  refine b_callS (S := []) (as := [.long (moF (0) a0), .int a1]) (B := fun _ => True) (i_more _ _ _ _ _) cs_X12_192 eX12_word_6 ⟨Nat.le_of_ble_eq_true rfl, Nat.le_of_ble_eq_true rfl⟩ ⟨Nat.le_of_ble_eq_true rfl, Nat.le_of_ble_eq_true rfl⟩ rfl rfl (Nat.le_of_ble_eq_true rfl) (fun _ _ _ _ h => h) (fun _ _ _ _ _ _ => trivial) ?_
  refine n_ild2 eX12_word_9 ?_
  refine b_callS (S := []) (as := [.long (moF (moF (0) a0) a1), .int a2]) (B := fun _ => True) (i_more _ _ _ _ _) cs_X12_192 eX12_word_10 ⟨Nat.le_of_ble_eq_true rfl, Nat.le_of_ble_eq_true rfl⟩ ⟨Nat.le_of_ble_eq_true rfl, Nat.le_of_ble_eq_true rfl⟩ rfl rfl (Nat.le_of_ble_eq_true rfl) (fun _ _ _ _ h => h) (fun _ _ _ _ _ _ => trivial) ?_
  refine n_ild3 eX12_word_13 ?_
  refine b_callS (S := []) (as := [.long (moF (moF (moF (0) a0) a1) a2), .int a3]) (B := fun _ => True) (i_more _ _ _ _ _) cs_X12_192 eX12_word_14 ⟨Nat.le_of_ble_eq_true rfl, Nat.le_of_ble_eq_true rfl⟩ ⟨Nat.le_of_ble_eq_true rfl, Nat.le_of_ble_eq_true rfl⟩ rfl rfl (Nat.le_of_ble_eq_true rfl) (fun _ _ _ _ h => h) (fun _ _ _ _ _ _ => trivial) ?_
  refine n_ild4 eX12_word_17 ?_
  refine b_callS (S := []) (as := [.long (moF (moF (moF (moF (0) a0) a1) a2) a3), .int a4]) (B := fun _ => True) (i_more _ _ _ _ _) cs_X12_192 eX12_word_19 ⟨Nat.le_of_ble_eq_true rfl, Nat.le_of_ble_eq_true rfl⟩ ⟨Nat.le_of_ble_eq_true rfl, Nat.le_of_ble_eq_true rfl⟩ rfl rfl (Nat.le_of_ble_eq_true rfl) (fun _ _ _ _ h => h) (fun _ _ _ _ _ _ => trivial) ?_
  refine n_ild5 eX12_word_22 ?_
  refine b_callS (S := []) (as := [.long (moF (moF (moF (moF (moF (0) a0) a1) a2) a3) a4), .int a5]) (B := fun _ => True) (i_more _ _ _ _ _) cs_X12_192 eX12_word_24 ⟨Nat.le_of_ble_eq_true rfl, Nat.le_of_ble_eq_true rfl⟩ ⟨Nat.le_of_ble_eq_true rfl, Nat.le_of_ble_eq_true rfl⟩ rfl rfl (Nat.le_of_ble_eq_true rfl) (fun _ _ _ _ h => h) (fun _ _ _ _ _ _ => trivial) ?_
  refine n_ild6 eX12_word_27 ?_
  refine b_callS (S := []) (as := [.long (moF (moF (moF (moF (moF (moF (0) a0) a1) a2) a3) a4) a5), .int a6]) (B := fun _ => True) (i_more _ _ _ _ _) cs_X12_192 eX12_word_29 ⟨Nat.le_of_ble_eq_true rfl, Nat.le_of_ble_eq_true rfl⟩ ⟨Nat.le_of_ble_eq_true rfl, Nat.le_of_ble_eq_true rfl⟩ rfl rfl (Nat.le_of_ble_eq_true rfl) (fun _ _ _ _ h => h) (fun _ _ _ _ _ _ => trivial) ?_
  exact b_lret rfl (Nat.le_of_ble_eq_true rfl) (Nat.le_of_ble_eq_true rfl) eX12_word_32
abbrev L_class : RL9 := ((22, 3) :: (110, 3) :: (110, 2) :: (110, 1) :: (110, 0) :: (22, 2) :: (105, 3) :: (105, 2) :: (105, 1) :: (105, 0) :: (22, 1) :: (100, 3) :: (100, 2) :: (100, 1) :: (100, 0) :: (22, 0) :: (95, 3) :: (95, 2) :: (95, 1) :: (95, 0) :: (16, 3) :: (92, 4) :: (93, 0) :: (16, 2) :: (89, 4) :: (90, 0) :: (16, 1) :: (86, 4) :: (87, 0) :: (16, 0) :: (83, 4) :: (84, 0) :: (0, 12) :: (24, 3) :: (24, 2) :: (24, 1) :: (0, 4) :: (14, 1) :: (0, 3) :: (10, 3) :: (10, 2) :: (10, 1) :: (0, 14) :: (0, 13) :: (0, 11) :: (0, 9) :: (0, 8) :: (17, 3) :: (17, 2) :: (17, 1) :: (17, 0) :: (0, 6) :: (0, 2) :: (3, 2) :: (3, 1) :: (3, 0) :: (4, 2) :: (4, 1) :: (4, 0) :: (0, 1) :: (1, 0) :: [])
abbrev S_class (st : St) (tv : Int32) : St := (sI (sI (sI (sI (sI (sI (sI (sI (sI (sI (sI (sI (sI (sI (sI (sI (sI (sI (sI (sI (sI (sI (sI (sI (sI (sI (sI (sI (sI (sI (sI (sI (sI (sI (sI (sI (sI (sI st 3 4 (-1)) 0 5 (-1)) 0 0 tv) 10 6 (-1)) 10 0 tv) 14 3 (-1)) 14 0 tv) 24 0 tv) 83 0 101) 83 1 10) 86 0 101) 86 1 10) 89 0 101) 89 1 10) 92 0 101) 92 1 10) 23 0 (-1)) 23 1 (-1)) 23 2 (-1)) 23 3 (-1)) 23 4 (-1)) 23 5 (-1)) 29 0 (-1)) 29 1 (-1)) 29 2 (-1)) 29 3 (-1)) 29 4 (-1)) 29 5 (-1)) 29 6 (-1)) 29 7 (-1)) 29 8 (-1)) 29 9 (-1)) 29 10 (-1)) 29 11 (-1)) 29 12 (-1)) 29 13 (-1)) 29 14 (-1)) 29 15 (-1))
theorem i_class (t tv : Int32) (htv : tv = if t < 2 ∨ 13 < t then 2 else t) : MB l D cy ad bs 3 61 5708 YX11_init NB [.ref 0, .int t] 1 ([] : RL9) z0 none 62 L_class (S_class z0 tv) := by
  refine MB.ofG [some (.ref 0), some (.int t), none] (by decide) (Nat.le_of_ble_eq_true rfl) rfl ?_
  intro p e s m args below meth c hin hB
  have k2 : GB p l e (rmB 3 61 5708) s m args below meth c D cy ad bs (cX11_init, RX11, 3, none) (MQ below (QCg D cy ad bs 62 L_class (S_class z0 tv) none) args s 61 5708 (fun q => bs ≤ q)) 19 3813 20 ((0, 14) :: (0, 13) :: (0, 11) :: (0, 9) :: (0, 8) :: (17, 3) :: (17, 2) :: (17, 1) :: (17, 0) :: (0, 6) :: (0, 2) :: (3, 2) :: (3, 1) :: (3, 0) :: (4, 2) :: (4, 1) :: (4, 0) :: (0, 1) :: (1, 0) :: ([] : RL9)) 114 [some (.ref 0), some (.int t), none] [.int tv, .ref 0] (sI (sI z0 3 4 (-1)) 0 5 (-1)) := by
    refine b_putI (ci := 10) (j := 0) rfl (Nat.le_of_ble_eq_true rfl) (Nat.le_of_ble_eq_true rfl) (by decide) (by decide) (Or.inl rfl) hin rfl fl_X11_65 eX11_init_114 ?_
    refine n_ald0 eX11_init_117 ?_
    refine b_new (k := 10) (ci := 4) rfl (by decide) rfl wn_X11_68 ⟨Nat.le_of_ble_eq_true rfl, Nat.le_of_ble_eq_true rfl⟩ eX11_init_118 ?_
    refine n_dup rfl eX11_init_121 ?_
    refine n_ald0 eX11_init_122 ?_
    refine b_getI (ci := 10) (j := 0) rfl (Nat.le_of_ble_eq_true rfl) (Nat.le_of_ble_eq_true rfl) (by decide) (by decide) rfl fl_X11_65 eX11_init_123 ?_
    refine b_callI (as := [.int tv]) (B := NB) (i_names (tv) _ _ (fun j => rfl)) ci_X11_70 ⟨rfl, rfl⟩ eX11_init_126 ⟨Nat.le_of_ble_eq_true rfl, Nat.le_of_ble_eq_true rfl⟩ ⟨Nat.le_of_ble_eq_true rfl, Nat.le_of_ble_eq_true rfl⟩ rfl rfl (Nat.le_of_ble_eq_true rfl) (fun _ _ _ _ h => h.call) (fun _ _ _ _ _ hW => hB.warm hW) ?_
    refine b_putR (ci := 10) (j := 3) rfl (Nat.le_of_ble_eq_true rfl) (Nat.le_of_ble_eq_true rfl) (by decide) (by decide) rfl rfl hin rfl fl_X11_73 eX11_init_129 ?_
    refine n_ald0 eX11_init_132 ?_
    refine b_new (k := 14) (ci := 3) rfl (by decide) rfl wn_X11_77 ⟨Nat.le_of_ble_eq_true rfl, Nat.le_of_ble_eq_true rfl⟩ eX11_init_133 ?_
    refine n_dup rfl eX11_init_136 ?_
    refine n_ald0 eX11_init_137 ?_
    refine b_getI (ci := 10) (j := 0) rfl (Nat.le_of_ble_eq_true rfl) (Nat.le_of_ble_eq_true rfl) (by decide) (by decide) rfl fl_X11_65 eX11_init_138 ?_
    refine b_callI (as := [.int tv]) (B := NB) (i_maker (tv) _ _ (fun j => rfl)) ci_X11_79 ⟨rfl, rfl⟩ eX11_init_141 ⟨Nat.le_of_ble_eq_true rfl, Nat.le_of_ble_eq_true rfl⟩ ⟨Nat.le_of_ble_eq_true rfl, Nat.le_of_ble_eq_true rfl⟩ rfl rfl (Nat.le_of_ble_eq_true rfl) (fun _ _ _ _ h => h.call) (fun _ _ _ _ _ hW => hB.warm hW) ?_
    refine b_putR (ci := 10) (j := 4) rfl (Nat.le_of_ble_eq_true rfl) (Nat.le_of_ble_eq_true rfl) (by decide) (by decide) rfl rfl hin rfl fl_X11_80 eX11_init_144 ?_
    refine n_ald0 eX11_init_147 ?_
    refine b_new (k := 24) (ci := 0) rfl (by decide) rfl wn_X11_84 ⟨Nat.le_of_ble_eq_true rfl, Nat.le_of_ble_eq_true rfl⟩ eX11_init_148 ?_
    refine n_dup rfl eX11_init_151 ?_
    refine n_ald0 eX11_init_152 ?_
    refine b_getI (ci := 10) (j := 0) rfl (Nat.le_of_ble_eq_true rfl) (Nat.le_of_ble_eq_true rfl) (by decide) (by decide) rfl fl_X11_65 eX11_init_153 ?_
    refine b_callI (as := [.int tv]) (B := NB) (i_desk (tv) _ _ (fun j => rfl)) ci_X11_86 ⟨rfl, rfl⟩ eX11_init_156 ⟨Nat.le_of_ble_eq_true rfl, Nat.le_of_ble_eq_true rfl⟩ ⟨Nat.le_of_ble_eq_true rfl, Nat.le_of_ble_eq_true rfl⟩ rfl rfl (Nat.le_of_ble_eq_true rfl) (fun _ _ _ _ h => h.call) (fun _ _ _ _ _ hW => hB.warm hW) ?_
    refine b_putR (ci := 10) (j := 12) rfl (Nat.le_of_ble_eq_true rfl) (Nat.le_of_ble_eq_true rfl) (by decide) (by decide) rfl rfl hin rfl fl_X11_87 eX11_init_159 ?_
    refine n_iconst (v := 0) (by decide) eX11_init_162 ?_
    refine n_ist2 rfl (Nat.le_of_ble_eq_true rfl) eX11_init_163 ?_
    refine n_ild2 eX11_init_164 ?_
    refine n_iconst (v := 4) (by decide) eX11_init_165 ?_
    refine n_icmp_ge eX11_init_166 (fun h => absurd h (by decide)) (fun _ => ?_)
    refine n_ald0 eX11_init_169 ?_
    refine b_getR (ci := 10) (j := 6) rfl (Nat.le_of_ble_eq_true rfl) (Nat.le_of_ble_eq_true rfl) (by decide) (by decide) rfl rfl fl_X11_29 eX11_init_170 ?_
    refine n_ild2 eX11_init_173 ?_
    refine b_new (k := 83) (ci := 2) rfl (by decide) rfl wn_X11_27 ⟨Nat.le_of_ble_eq_true rfl, Nat.le_of_ble_eq_true rfl⟩ eX11_init_174 ?_
    refine n_dup rfl eX11_init_177 ?_
    refine b_callN (B := NB) (i_key0 _ _ (fun j => rfl) (fun j => rfl)) hB.2.2.2.2.2.1 ci_X11_91 ⟨rfl, rfl⟩ eX11_init_178 ⟨Nat.le_of_ble_eq_true rfl, Nat.le_of_ble_eq_true rfl⟩ ⟨Nat.le_of_ble_eq_true rfl, Nat.le_of_ble_eq_true rfl⟩ rfl (Nat.le_of_ble_eq_true rfl) (fun _ _ _ _ h => h.call) (fun _ _ _ _ _ hW => hB.warm hW) ?_
    refine b_aast (j := 0) (Or.inl rfl) (Nat.le_of_ble_eq_true rfl) (Nat.le_of_ble_eq_true rfl) rfl (Nat.le_of_ble_eq_true rfl) (Nat.le_of_ble_eq_true rfl) rfl (by decide) (vp_in_nI (n := 0) (N := 4) (by decide) (by decide)) eX11_init_181 ?_
    refine n_inc2 (v := 1) rfl (Nat.le_of_ble_eq_true rfl) (by decide) eX11_init_182 ?_
    refine n_goto eX11_init_185 ?_
    refine n_ild2 eX11_init_164 ?_
    refine n_iconst (v := 4) (by decide) eX11_init_165 ?_
    refine n_icmp_ge eX11_init_166 (fun h => absurd h (by decide)) (fun _ => ?_)
    refine n_ald0 eX11_init_169 ?_
    refine b_getR (ci := 10) (j := 6) rfl (Nat.le_of_ble_eq_true rfl) (Nat.le_of_ble_eq_true rfl) (by decide) (by decide) rfl rfl fl_X11_29 eX11_init_170 ?_
    refine n_ild2 eX11_init_173 ?_
    refine b_new (k := 86) (ci := 2) rfl (by decide) rfl wn_X11_27 ⟨Nat.le_of_ble_eq_true rfl, Nat.le_of_ble_eq_true rfl⟩ eX11_init_174 ?_
    refine n_dup rfl eX11_init_177 ?_
    refine b_callN (B := NB) (i_key1 _ _ (fun j => rfl) (fun j => rfl)) hB.2.2.2.2.2.1 ci_X11_91 ⟨rfl, rfl⟩ eX11_init_178 ⟨Nat.le_of_ble_eq_true rfl, Nat.le_of_ble_eq_true rfl⟩ ⟨Nat.le_of_ble_eq_true rfl, Nat.le_of_ble_eq_true rfl⟩ rfl (Nat.le_of_ble_eq_true rfl) (fun _ _ _ _ h => h.call) (fun _ _ _ _ _ hW => hB.warm hW) ?_
    refine b_aast (j := 1) (Or.inl rfl) (Nat.le_of_ble_eq_true rfl) (Nat.le_of_ble_eq_true rfl) rfl (Nat.le_of_ble_eq_true rfl) (Nat.le_of_ble_eq_true rfl) rfl (by decide) (vp_in_nI (n := 1) (N := 4) (by decide) (by decide)) eX11_init_181 ?_
    refine n_inc2 (v := 2) rfl (Nat.le_of_ble_eq_true rfl) (by decide) eX11_init_182 ?_
    refine n_goto eX11_init_185 ?_
    refine n_ild2 eX11_init_164 ?_
    refine n_iconst (v := 4) (by decide) eX11_init_165 ?_
    refine n_icmp_ge eX11_init_166 (fun h => absurd h (by decide)) (fun _ => ?_)
    refine n_ald0 eX11_init_169 ?_
    refine b_getR (ci := 10) (j := 6) rfl (Nat.le_of_ble_eq_true rfl) (Nat.le_of_ble_eq_true rfl) (by decide) (by decide) rfl rfl fl_X11_29 eX11_init_170 ?_
    refine n_ild2 eX11_init_173 ?_
    refine b_new (k := 89) (ci := 2) rfl (by decide) rfl wn_X11_27 ⟨Nat.le_of_ble_eq_true rfl, Nat.le_of_ble_eq_true rfl⟩ eX11_init_174 ?_
    refine n_dup rfl eX11_init_177 ?_
    refine b_callN (B := NB) (i_key2 _ _ (fun j => rfl) (fun j => rfl)) hB.2.2.2.2.2.1 ci_X11_91 ⟨rfl, rfl⟩ eX11_init_178 ⟨Nat.le_of_ble_eq_true rfl, Nat.le_of_ble_eq_true rfl⟩ ⟨Nat.le_of_ble_eq_true rfl, Nat.le_of_ble_eq_true rfl⟩ rfl (Nat.le_of_ble_eq_true rfl) (fun _ _ _ _ h => h.call) (fun _ _ _ _ _ hW => hB.warm hW) ?_
    refine b_aast (j := 2) (Or.inl rfl) (Nat.le_of_ble_eq_true rfl) (Nat.le_of_ble_eq_true rfl) rfl (Nat.le_of_ble_eq_true rfl) (Nat.le_of_ble_eq_true rfl) rfl (by decide) (vp_in_nI (n := 2) (N := 4) (by decide) (by decide)) eX11_init_181 ?_
    refine n_inc2 (v := 3) rfl (Nat.le_of_ble_eq_true rfl) (by decide) eX11_init_182 ?_
    refine n_goto eX11_init_185 ?_
    refine n_ild2 eX11_init_164 ?_
    refine n_iconst (v := 4) (by decide) eX11_init_165 ?_
    refine n_icmp_ge eX11_init_166 (fun h => absurd h (by decide)) (fun _ => ?_)
    refine n_ald0 eX11_init_169 ?_
    refine b_getR (ci := 10) (j := 6) rfl (Nat.le_of_ble_eq_true rfl) (Nat.le_of_ble_eq_true rfl) (by decide) (by decide) rfl rfl fl_X11_29 eX11_init_170 ?_
    refine n_ild2 eX11_init_173 ?_
    refine b_new (k := 92) (ci := 2) rfl (by decide) rfl wn_X11_27 ⟨Nat.le_of_ble_eq_true rfl, Nat.le_of_ble_eq_true rfl⟩ eX11_init_174 ?_
    refine n_dup rfl eX11_init_177 ?_
    refine b_callN (B := NB) (i_key3 _ _ (fun j => rfl) (fun j => rfl)) hB.2.2.2.2.2.1 ci_X11_91 ⟨rfl, rfl⟩ eX11_init_178 ⟨Nat.le_of_ble_eq_true rfl, Nat.le_of_ble_eq_true rfl⟩ ⟨Nat.le_of_ble_eq_true rfl, Nat.le_of_ble_eq_true rfl⟩ rfl (Nat.le_of_ble_eq_true rfl) (fun _ _ _ _ h => h.call) (fun _ _ _ _ _ hW => hB.warm hW) ?_
    refine b_aast (j := 3) (Or.inl rfl) (Nat.le_of_ble_eq_true rfl) (Nat.le_of_ble_eq_true rfl) rfl (Nat.le_of_ble_eq_true rfl) (Nat.le_of_ble_eq_true rfl) rfl (by decide) (vp_in_nI (n := 3) (N := 4) (by decide) (by decide)) eX11_init_181 ?_
    refine n_inc2 (v := 4) rfl (Nat.le_of_ble_eq_true rfl) (by decide) eX11_init_182 ?_
    refine n_goto eX11_init_185 ?_
    refine n_ild2 eX11_init_164 ?_
    refine n_iconst (v := 4) (by decide) eX11_init_165 ?_
    refine n_icmp_ge eX11_init_166 (fun _ => ?_) (fun h => absurd (by decide) h)
    refine n_iconst (v := 0) (by decide) eX11_init_188 ?_
    refine n_ist2 rfl (Nat.le_of_ble_eq_true rfl) eX11_init_189 ?_
    refine n_ild2 eX11_init_190 ?_
    refine n_iconst (v := 4) (by decide) eX11_init_191 ?_
    refine n_icmp_ge eX11_init_192 (fun h => absurd h (by decide)) (fun _ => ?_)
    refine n_ald0 eX11_init_195 ?_
    refine b_getR (ci := 10) (j := 9) rfl (Nat.le_of_ble_eq_true rfl) (Nat.le_of_ble_eq_true rfl) (by decide) (by decide) rfl rfl fl_X11_45 eX11_init_196 ?_
    refine n_ild2 eX11_init_199 ?_
    refine b_new (k := 95) (ci := 6) rfl (by decide) rfl wn_X11_43 ⟨Nat.le_of_ble_eq_true rfl, Nat.le_of_ble_eq_true rfl⟩ eX11_init_200 ?_
    refine n_dup rfl eX11_init_203 ?_
    refine b_callN (B := NB) (i_prog0 _ _ (fun j => rfl)) hB.2.2.2.2.2.2.1 ci_X11_92 ⟨rfl, rfl⟩ eX11_init_204 ⟨Nat.le_of_ble_eq_true rfl, Nat.le_of_ble_eq_true rfl⟩ ⟨Nat.le_of_ble_eq_true rfl, Nat.le_of_ble_eq_true rfl⟩ rfl (Nat.le_of_ble_eq_true rfl) (fun _ _ _ _ h => h.call) (fun _ _ _ _ _ hW => hB.warm hW) ?_
    refine b_aast (j := 0) (Or.inr rfl) (Nat.le_of_ble_eq_true rfl) (Nat.le_of_ble_eq_true rfl) rfl (Nat.le_of_ble_eq_true rfl) (Nat.le_of_ble_eq_true rfl) rfl (by decide) (vp_in_nI (n := 0) (N := 4) (by decide) (by decide)) eX11_init_207 ?_
    refine n_inc2 (v := 1) rfl (Nat.le_of_ble_eq_true rfl) (by decide) eX11_init_208 ?_
    refine n_goto eX11_init_211 ?_
    refine n_ild2 eX11_init_190 ?_
    refine n_iconst (v := 4) (by decide) eX11_init_191 ?_
    refine n_icmp_ge eX11_init_192 (fun h => absurd h (by decide)) (fun _ => ?_)
    refine n_ald0 eX11_init_195 ?_
    refine b_getR (ci := 10) (j := 9) rfl (Nat.le_of_ble_eq_true rfl) (Nat.le_of_ble_eq_true rfl) (by decide) (by decide) rfl rfl fl_X11_45 eX11_init_196 ?_
    refine n_ild2 eX11_init_199 ?_
    refine b_new (k := 100) (ci := 6) rfl (by decide) rfl wn_X11_43 ⟨Nat.le_of_ble_eq_true rfl, Nat.le_of_ble_eq_true rfl⟩ eX11_init_200 ?_
    refine n_dup rfl eX11_init_203 ?_
    refine b_callN (B := NB) (i_prog1 _ _ (fun j => rfl)) hB.2.2.2.2.2.2.1 ci_X11_92 ⟨rfl, rfl⟩ eX11_init_204 ⟨Nat.le_of_ble_eq_true rfl, Nat.le_of_ble_eq_true rfl⟩ ⟨Nat.le_of_ble_eq_true rfl, Nat.le_of_ble_eq_true rfl⟩ rfl (Nat.le_of_ble_eq_true rfl) (fun _ _ _ _ h => h.call) (fun _ _ _ _ _ hW => hB.warm hW) ?_
    refine b_aast (j := 1) (Or.inr rfl) (Nat.le_of_ble_eq_true rfl) (Nat.le_of_ble_eq_true rfl) rfl (Nat.le_of_ble_eq_true rfl) (Nat.le_of_ble_eq_true rfl) rfl (by decide) (vp_in_nI (n := 1) (N := 4) (by decide) (by decide)) eX11_init_207 ?_
    refine n_inc2 (v := 2) rfl (Nat.le_of_ble_eq_true rfl) (by decide) eX11_init_208 ?_
    refine n_goto eX11_init_211 ?_
    refine n_ild2 eX11_init_190 ?_
    refine n_iconst (v := 4) (by decide) eX11_init_191 ?_
    refine n_icmp_ge eX11_init_192 (fun h => absurd h (by decide)) (fun _ => ?_)
    refine n_ald0 eX11_init_195 ?_
    refine b_getR (ci := 10) (j := 9) rfl (Nat.le_of_ble_eq_true rfl) (Nat.le_of_ble_eq_true rfl) (by decide) (by decide) rfl rfl fl_X11_45 eX11_init_196 ?_
    refine n_ild2 eX11_init_199 ?_
    refine b_new (k := 105) (ci := 6) rfl (by decide) rfl wn_X11_43 ⟨Nat.le_of_ble_eq_true rfl, Nat.le_of_ble_eq_true rfl⟩ eX11_init_200 ?_
    refine n_dup rfl eX11_init_203 ?_
    refine b_callN (B := NB) (i_prog2 _ _ (fun j => rfl)) hB.2.2.2.2.2.2.1 ci_X11_92 ⟨rfl, rfl⟩ eX11_init_204 ⟨Nat.le_of_ble_eq_true rfl, Nat.le_of_ble_eq_true rfl⟩ ⟨Nat.le_of_ble_eq_true rfl, Nat.le_of_ble_eq_true rfl⟩ rfl (Nat.le_of_ble_eq_true rfl) (fun _ _ _ _ h => h.call) (fun _ _ _ _ _ hW => hB.warm hW) ?_
    refine b_aast (j := 2) (Or.inr rfl) (Nat.le_of_ble_eq_true rfl) (Nat.le_of_ble_eq_true rfl) rfl (Nat.le_of_ble_eq_true rfl) (Nat.le_of_ble_eq_true rfl) rfl (by decide) (vp_in_nI (n := 2) (N := 4) (by decide) (by decide)) eX11_init_207 ?_
    refine n_inc2 (v := 3) rfl (Nat.le_of_ble_eq_true rfl) (by decide) eX11_init_208 ?_
    refine n_goto eX11_init_211 ?_
    refine n_ild2 eX11_init_190 ?_
    refine n_iconst (v := 4) (by decide) eX11_init_191 ?_
    refine n_icmp_ge eX11_init_192 (fun h => absurd h (by decide)) (fun _ => ?_)
    refine n_ald0 eX11_init_195 ?_
    refine b_getR (ci := 10) (j := 9) rfl (Nat.le_of_ble_eq_true rfl) (Nat.le_of_ble_eq_true rfl) (by decide) (by decide) rfl rfl fl_X11_45 eX11_init_196 ?_
    refine n_ild2 eX11_init_199 ?_
    refine b_new (k := 110) (ci := 6) rfl (by decide) rfl wn_X11_43 ⟨Nat.le_of_ble_eq_true rfl, Nat.le_of_ble_eq_true rfl⟩ eX11_init_200 ?_
    refine n_dup rfl eX11_init_203 ?_
    refine b_callN (B := NB) (i_prog3 _ _ (fun j => rfl)) hB.2.2.2.2.2.2.1 ci_X11_92 ⟨rfl, rfl⟩ eX11_init_204 ⟨Nat.le_of_ble_eq_true rfl, Nat.le_of_ble_eq_true rfl⟩ ⟨Nat.le_of_ble_eq_true rfl, Nat.le_of_ble_eq_true rfl⟩ rfl (Nat.le_of_ble_eq_true rfl) (fun _ _ _ _ h => h.call) (fun _ _ _ _ _ hW => hB.warm hW) ?_
    refine b_aast (j := 3) (Or.inr rfl) (Nat.le_of_ble_eq_true rfl) (Nat.le_of_ble_eq_true rfl) rfl (Nat.le_of_ble_eq_true rfl) (Nat.le_of_ble_eq_true rfl) rfl (by decide) (vp_in_nI (n := 3) (N := 4) (by decide) (by decide)) eX11_init_207 ?_
    refine n_inc2 (v := 4) rfl (Nat.le_of_ble_eq_true rfl) (by decide) eX11_init_208 ?_
    refine n_goto eX11_init_211 ?_
    refine n_ild2 eX11_init_190 ?_
    refine n_iconst (v := 4) (by decide) eX11_init_191 ?_
    refine n_icmp_ge eX11_init_192 (fun _ => ?_) (fun h => absurd (by decide) h)
    refine n_iconst (v := 0) (by decide) eX11_init_214 ?_
    refine n_ist2 rfl (Nat.le_of_ble_eq_true rfl) eX11_init_215 ?_
    refine n_ild2 eX11_init_216 ?_
    refine n_bipush (v := 6) (by decide) eX11_init_217 ?_
    refine n_icmp_ge eX11_init_219 (fun h => absurd h (by decide)) (fun _ => ?_)
    refine n_ald0 eX11_init_222 ?_
    refine b_getR (ci := 10) (j := 11) rfl (Nat.le_of_ble_eq_true rfl) (Nat.le_of_ble_eq_true rfl) (by decide) (by decide) rfl rfl fl_X11_52 eX11_init_223 ?_
    refine n_ild2 eX11_init_226 ?_
    refine n_iconst (v := (-1)) (by decide) eX11_init_227 ?_
    refine b_iast (j := 0) rfl (Nat.le_of_ble_eq_true rfl) (Nat.le_of_ble_eq_true rfl) (by decide) (vp_in_nI (n := 0) (N := 6) (by decide) (by decide)) eX11_init_228 ?_
    refine n_inc2 (v := 1) rfl (Nat.le_of_ble_eq_true rfl) (by decide) eX11_init_229 ?_
    refine n_goto eX11_init_232 ?_
    refine n_ild2 eX11_init_216 ?_
    refine n_bipush (v := 6) (by decide) eX11_init_217 ?_
    refine n_icmp_ge eX11_init_219 (fun h => absurd h (by decide)) (fun _ => ?_)
    refine n_ald0 eX11_init_222 ?_
    refine b_getR (ci := 10) (j := 11) rfl (Nat.le_of_ble_eq_true rfl) (Nat.le_of_ble_eq_true rfl) (by decide) (by decide) rfl rfl fl_X11_52 eX11_init_223 ?_
    refine n_ild2 eX11_init_226 ?_
    refine n_iconst (v := (-1)) (by decide) eX11_init_227 ?_
    refine b_iast (j := 1) rfl (Nat.le_of_ble_eq_true rfl) (Nat.le_of_ble_eq_true rfl) (by decide) (vp_in_nI (n := 1) (N := 6) (by decide) (by decide)) eX11_init_228 ?_
    refine n_inc2 (v := 2) rfl (Nat.le_of_ble_eq_true rfl) (by decide) eX11_init_229 ?_
    refine n_goto eX11_init_232 ?_
    refine n_ild2 eX11_init_216 ?_
    refine n_bipush (v := 6) (by decide) eX11_init_217 ?_
    refine n_icmp_ge eX11_init_219 (fun h => absurd h (by decide)) (fun _ => ?_)
    refine n_ald0 eX11_init_222 ?_
    refine b_getR (ci := 10) (j := 11) rfl (Nat.le_of_ble_eq_true rfl) (Nat.le_of_ble_eq_true rfl) (by decide) (by decide) rfl rfl fl_X11_52 eX11_init_223 ?_
    refine n_ild2 eX11_init_226 ?_
    refine n_iconst (v := (-1)) (by decide) eX11_init_227 ?_
    refine b_iast (j := 2) rfl (Nat.le_of_ble_eq_true rfl) (Nat.le_of_ble_eq_true rfl) (by decide) (vp_in_nI (n := 2) (N := 6) (by decide) (by decide)) eX11_init_228 ?_
    refine n_inc2 (v := 3) rfl (Nat.le_of_ble_eq_true rfl) (by decide) eX11_init_229 ?_
    refine n_goto eX11_init_232 ?_
    refine n_ild2 eX11_init_216 ?_
    refine n_bipush (v := 6) (by decide) eX11_init_217 ?_
    refine n_icmp_ge eX11_init_219 (fun h => absurd h (by decide)) (fun _ => ?_)
    refine n_ald0 eX11_init_222 ?_
    refine b_getR (ci := 10) (j := 11) rfl (Nat.le_of_ble_eq_true rfl) (Nat.le_of_ble_eq_true rfl) (by decide) (by decide) rfl rfl fl_X11_52 eX11_init_223 ?_
    refine n_ild2 eX11_init_226 ?_
    refine n_iconst (v := (-1)) (by decide) eX11_init_227 ?_
    refine b_iast (j := 3) rfl (Nat.le_of_ble_eq_true rfl) (Nat.le_of_ble_eq_true rfl) (by decide) (vp_in_nI (n := 3) (N := 6) (by decide) (by decide)) eX11_init_228 ?_
    refine n_inc2 (v := 4) rfl (Nat.le_of_ble_eq_true rfl) (by decide) eX11_init_229 ?_
    refine n_goto eX11_init_232 ?_
    refine n_ild2 eX11_init_216 ?_
    refine n_bipush (v := 6) (by decide) eX11_init_217 ?_
    refine n_icmp_ge eX11_init_219 (fun h => absurd h (by decide)) (fun _ => ?_)
    refine n_ald0 eX11_init_222 ?_
    refine b_getR (ci := 10) (j := 11) rfl (Nat.le_of_ble_eq_true rfl) (Nat.le_of_ble_eq_true rfl) (by decide) (by decide) rfl rfl fl_X11_52 eX11_init_223 ?_
    refine n_ild2 eX11_init_226 ?_
    refine n_iconst (v := (-1)) (by decide) eX11_init_227 ?_
    refine b_iast (j := 4) rfl (Nat.le_of_ble_eq_true rfl) (Nat.le_of_ble_eq_true rfl) (by decide) (vp_in_nI (n := 4) (N := 6) (by decide) (by decide)) eX11_init_228 ?_
    refine n_inc2 (v := 5) rfl (Nat.le_of_ble_eq_true rfl) (by decide) eX11_init_229 ?_
    refine n_goto eX11_init_232 ?_
    refine n_ild2 eX11_init_216 ?_
    refine n_bipush (v := 6) (by decide) eX11_init_217 ?_
    refine n_icmp_ge eX11_init_219 (fun h => absurd h (by decide)) (fun _ => ?_)
    refine n_ald0 eX11_init_222 ?_
    refine b_getR (ci := 10) (j := 11) rfl (Nat.le_of_ble_eq_true rfl) (Nat.le_of_ble_eq_true rfl) (by decide) (by decide) rfl rfl fl_X11_52 eX11_init_223 ?_
    refine n_ild2 eX11_init_226 ?_
    refine n_iconst (v := (-1)) (by decide) eX11_init_227 ?_
    refine b_iast (j := 5) rfl (Nat.le_of_ble_eq_true rfl) (Nat.le_of_ble_eq_true rfl) (by decide) (vp_in_nI (n := 5) (N := 6) (by decide) (by decide)) eX11_init_228 ?_
    refine n_inc2 (v := 6) rfl (Nat.le_of_ble_eq_true rfl) (by decide) eX11_init_229 ?_
    refine n_goto eX11_init_232 ?_
    refine n_ild2 eX11_init_216 ?_
    refine n_bipush (v := 6) (by decide) eX11_init_217 ?_
    refine n_icmp_ge eX11_init_219 (fun _ => ?_) (fun h => absurd (by decide) h)
    refine n_iconst (v := 0) (by decide) eX11_init_235 ?_
    refine n_ist2 rfl (Nat.le_of_ble_eq_true rfl) eX11_init_236 ?_
    refine n_ild2 eX11_init_237 ?_
    refine n_ald0 eX11_init_238 ?_
    refine b_getR (ci := 10) (j := 14) rfl (Nat.le_of_ble_eq_true rfl) (Nat.le_of_ble_eq_true rfl) (by decide) (by decide) rfl rfl fl_X11_59 eX11_init_239 ?_
    refine b_alen (v := 16) (by decide) (by decide) (Nat.le_of_ble_eq_true rfl) (Nat.le_of_ble_eq_true rfl) (by decide) eX11_init_242 ?_
    refine n_icmp_ge eX11_init_243 (fun h => absurd h (by decide)) (fun _ => ?_)
    refine n_ald0 eX11_init_246 ?_
    refine b_getR (ci := 10) (j := 14) rfl (Nat.le_of_ble_eq_true rfl) (Nat.le_of_ble_eq_true rfl) (by decide) (by decide) rfl rfl fl_X11_59 eX11_init_247 ?_
    refine n_ild2 eX11_init_250 ?_
    refine n_iconst (v := (-1)) (by decide) eX11_init_251 ?_
    refine b_iast (j := 0) rfl (Nat.le_of_ble_eq_true rfl) (Nat.le_of_ble_eq_true rfl) (by decide) (vp_in_nI (n := 0) (N := 16) (by decide) (by decide)) eX11_init_252 ?_
    refine n_inc2 (v := 1) rfl (Nat.le_of_ble_eq_true rfl) (by decide) eX11_init_253 ?_
    refine n_goto eX11_init_256 ?_
    refine n_ild2 eX11_init_237 ?_
    refine n_ald0 eX11_init_238 ?_
    refine b_getR (ci := 10) (j := 14) rfl (Nat.le_of_ble_eq_true rfl) (Nat.le_of_ble_eq_true rfl) (by decide) (by decide) rfl rfl fl_X11_59 eX11_init_239 ?_
    refine b_alen (v := 16) (by decide) (by decide) (Nat.le_of_ble_eq_true rfl) (Nat.le_of_ble_eq_true rfl) (by decide) eX11_init_242 ?_
    refine n_icmp_ge eX11_init_243 (fun h => absurd h (by decide)) (fun _ => ?_)
    refine n_ald0 eX11_init_246 ?_
    refine b_getR (ci := 10) (j := 14) rfl (Nat.le_of_ble_eq_true rfl) (Nat.le_of_ble_eq_true rfl) (by decide) (by decide) rfl rfl fl_X11_59 eX11_init_247 ?_
    refine n_ild2 eX11_init_250 ?_
    refine n_iconst (v := (-1)) (by decide) eX11_init_251 ?_
    refine b_iast (j := 1) rfl (Nat.le_of_ble_eq_true rfl) (Nat.le_of_ble_eq_true rfl) (by decide) (vp_in_nI (n := 1) (N := 16) (by decide) (by decide)) eX11_init_252 ?_
    refine n_inc2 (v := 2) rfl (Nat.le_of_ble_eq_true rfl) (by decide) eX11_init_253 ?_
    refine n_goto eX11_init_256 ?_
    refine n_ild2 eX11_init_237 ?_
    refine n_ald0 eX11_init_238 ?_
    refine b_getR (ci := 10) (j := 14) rfl (Nat.le_of_ble_eq_true rfl) (Nat.le_of_ble_eq_true rfl) (by decide) (by decide) rfl rfl fl_X11_59 eX11_init_239 ?_
    refine b_alen (v := 16) (by decide) (by decide) (Nat.le_of_ble_eq_true rfl) (Nat.le_of_ble_eq_true rfl) (by decide) eX11_init_242 ?_
    refine n_icmp_ge eX11_init_243 (fun h => absurd h (by decide)) (fun _ => ?_)
    refine n_ald0 eX11_init_246 ?_
    refine b_getR (ci := 10) (j := 14) rfl (Nat.le_of_ble_eq_true rfl) (Nat.le_of_ble_eq_true rfl) (by decide) (by decide) rfl rfl fl_X11_59 eX11_init_247 ?_
    refine n_ild2 eX11_init_250 ?_
    refine n_iconst (v := (-1)) (by decide) eX11_init_251 ?_
    refine b_iast (j := 2) rfl (Nat.le_of_ble_eq_true rfl) (Nat.le_of_ble_eq_true rfl) (by decide) (vp_in_nI (n := 2) (N := 16) (by decide) (by decide)) eX11_init_252 ?_
    refine n_inc2 (v := 3) rfl (Nat.le_of_ble_eq_true rfl) (by decide) eX11_init_253 ?_
    refine n_goto eX11_init_256 ?_
    refine n_ild2 eX11_init_237 ?_
    refine n_ald0 eX11_init_238 ?_
    refine b_getR (ci := 10) (j := 14) rfl (Nat.le_of_ble_eq_true rfl) (Nat.le_of_ble_eq_true rfl) (by decide) (by decide) rfl rfl fl_X11_59 eX11_init_239 ?_
    refine b_alen (v := 16) (by decide) (by decide) (Nat.le_of_ble_eq_true rfl) (Nat.le_of_ble_eq_true rfl) (by decide) eX11_init_242 ?_
    refine n_icmp_ge eX11_init_243 (fun h => absurd h (by decide)) (fun _ => ?_)
    refine n_ald0 eX11_init_246 ?_
    refine b_getR (ci := 10) (j := 14) rfl (Nat.le_of_ble_eq_true rfl) (Nat.le_of_ble_eq_true rfl) (by decide) (by decide) rfl rfl fl_X11_59 eX11_init_247 ?_
    refine n_ild2 eX11_init_250 ?_
    refine n_iconst (v := (-1)) (by decide) eX11_init_251 ?_
    refine b_iast (j := 3) rfl (Nat.le_of_ble_eq_true rfl) (Nat.le_of_ble_eq_true rfl) (by decide) (vp_in_nI (n := 3) (N := 16) (by decide) (by decide)) eX11_init_252 ?_
    refine n_inc2 (v := 4) rfl (Nat.le_of_ble_eq_true rfl) (by decide) eX11_init_253 ?_
    refine n_goto eX11_init_256 ?_
    refine n_ild2 eX11_init_237 ?_
    refine n_ald0 eX11_init_238 ?_
    refine b_getR (ci := 10) (j := 14) rfl (Nat.le_of_ble_eq_true rfl) (Nat.le_of_ble_eq_true rfl) (by decide) (by decide) rfl rfl fl_X11_59 eX11_init_239 ?_
    refine b_alen (v := 16) (by decide) (by decide) (Nat.le_of_ble_eq_true rfl) (Nat.le_of_ble_eq_true rfl) (by decide) eX11_init_242 ?_
    refine n_icmp_ge eX11_init_243 (fun h => absurd h (by decide)) (fun _ => ?_)
    refine n_ald0 eX11_init_246 ?_
    refine b_getR (ci := 10) (j := 14) rfl (Nat.le_of_ble_eq_true rfl) (Nat.le_of_ble_eq_true rfl) (by decide) (by decide) rfl rfl fl_X11_59 eX11_init_247 ?_
    refine n_ild2 eX11_init_250 ?_
    refine n_iconst (v := (-1)) (by decide) eX11_init_251 ?_
    refine b_iast (j := 4) rfl (Nat.le_of_ble_eq_true rfl) (Nat.le_of_ble_eq_true rfl) (by decide) (vp_in_nI (n := 4) (N := 16) (by decide) (by decide)) eX11_init_252 ?_
    refine n_inc2 (v := 5) rfl (Nat.le_of_ble_eq_true rfl) (by decide) eX11_init_253 ?_
    refine n_goto eX11_init_256 ?_
    refine n_ild2 eX11_init_237 ?_
    refine n_ald0 eX11_init_238 ?_
    refine b_getR (ci := 10) (j := 14) rfl (Nat.le_of_ble_eq_true rfl) (Nat.le_of_ble_eq_true rfl) (by decide) (by decide) rfl rfl fl_X11_59 eX11_init_239 ?_
    refine b_alen (v := 16) (by decide) (by decide) (Nat.le_of_ble_eq_true rfl) (Nat.le_of_ble_eq_true rfl) (by decide) eX11_init_242 ?_
    refine n_icmp_ge eX11_init_243 (fun h => absurd h (by decide)) (fun _ => ?_)
    refine n_ald0 eX11_init_246 ?_
    refine b_getR (ci := 10) (j := 14) rfl (Nat.le_of_ble_eq_true rfl) (Nat.le_of_ble_eq_true rfl) (by decide) (by decide) rfl rfl fl_X11_59 eX11_init_247 ?_
    refine n_ild2 eX11_init_250 ?_
    refine n_iconst (v := (-1)) (by decide) eX11_init_251 ?_
    refine b_iast (j := 5) rfl (Nat.le_of_ble_eq_true rfl) (Nat.le_of_ble_eq_true rfl) (by decide) (vp_in_nI (n := 5) (N := 16) (by decide) (by decide)) eX11_init_252 ?_
    refine n_inc2 (v := 6) rfl (Nat.le_of_ble_eq_true rfl) (by decide) eX11_init_253 ?_
    refine n_goto eX11_init_256 ?_
    refine n_ild2 eX11_init_237 ?_
    refine n_ald0 eX11_init_238 ?_
    refine b_getR (ci := 10) (j := 14) rfl (Nat.le_of_ble_eq_true rfl) (Nat.le_of_ble_eq_true rfl) (by decide) (by decide) rfl rfl fl_X11_59 eX11_init_239 ?_
    refine b_alen (v := 16) (by decide) (by decide) (Nat.le_of_ble_eq_true rfl) (Nat.le_of_ble_eq_true rfl) (by decide) eX11_init_242 ?_
    refine n_icmp_ge eX11_init_243 (fun h => absurd h (by decide)) (fun _ => ?_)
    refine n_ald0 eX11_init_246 ?_
    refine b_getR (ci := 10) (j := 14) rfl (Nat.le_of_ble_eq_true rfl) (Nat.le_of_ble_eq_true rfl) (by decide) (by decide) rfl rfl fl_X11_59 eX11_init_247 ?_
    refine n_ild2 eX11_init_250 ?_
    refine n_iconst (v := (-1)) (by decide) eX11_init_251 ?_
    refine b_iast (j := 6) rfl (Nat.le_of_ble_eq_true rfl) (Nat.le_of_ble_eq_true rfl) (by decide) (vp_in_nI (n := 6) (N := 16) (by decide) (by decide)) eX11_init_252 ?_
    refine n_inc2 (v := 7) rfl (Nat.le_of_ble_eq_true rfl) (by decide) eX11_init_253 ?_
    refine n_goto eX11_init_256 ?_
    refine n_ild2 eX11_init_237 ?_
    refine n_ald0 eX11_init_238 ?_
    refine b_getR (ci := 10) (j := 14) rfl (Nat.le_of_ble_eq_true rfl) (Nat.le_of_ble_eq_true rfl) (by decide) (by decide) rfl rfl fl_X11_59 eX11_init_239 ?_
    refine b_alen (v := 16) (by decide) (by decide) (Nat.le_of_ble_eq_true rfl) (Nat.le_of_ble_eq_true rfl) (by decide) eX11_init_242 ?_
    refine n_icmp_ge eX11_init_243 (fun h => absurd h (by decide)) (fun _ => ?_)
    refine n_ald0 eX11_init_246 ?_
    refine b_getR (ci := 10) (j := 14) rfl (Nat.le_of_ble_eq_true rfl) (Nat.le_of_ble_eq_true rfl) (by decide) (by decide) rfl rfl fl_X11_59 eX11_init_247 ?_
    refine n_ild2 eX11_init_250 ?_
    refine n_iconst (v := (-1)) (by decide) eX11_init_251 ?_
    refine b_iast (j := 7) rfl (Nat.le_of_ble_eq_true rfl) (Nat.le_of_ble_eq_true rfl) (by decide) (vp_in_nI (n := 7) (N := 16) (by decide) (by decide)) eX11_init_252 ?_
    refine n_inc2 (v := 8) rfl (Nat.le_of_ble_eq_true rfl) (by decide) eX11_init_253 ?_
    refine n_goto eX11_init_256 ?_
    refine n_ild2 eX11_init_237 ?_
    refine n_ald0 eX11_init_238 ?_
    refine b_getR (ci := 10) (j := 14) rfl (Nat.le_of_ble_eq_true rfl) (Nat.le_of_ble_eq_true rfl) (by decide) (by decide) rfl rfl fl_X11_59 eX11_init_239 ?_
    refine b_alen (v := 16) (by decide) (by decide) (Nat.le_of_ble_eq_true rfl) (Nat.le_of_ble_eq_true rfl) (by decide) eX11_init_242 ?_
    refine n_icmp_ge eX11_init_243 (fun h => absurd h (by decide)) (fun _ => ?_)
    refine n_ald0 eX11_init_246 ?_
    refine b_getR (ci := 10) (j := 14) rfl (Nat.le_of_ble_eq_true rfl) (Nat.le_of_ble_eq_true rfl) (by decide) (by decide) rfl rfl fl_X11_59 eX11_init_247 ?_
    refine n_ild2 eX11_init_250 ?_
    refine n_iconst (v := (-1)) (by decide) eX11_init_251 ?_
    refine b_iast (j := 8) rfl (Nat.le_of_ble_eq_true rfl) (Nat.le_of_ble_eq_true rfl) (by decide) (vp_in_nI (n := 8) (N := 16) (by decide) (by decide)) eX11_init_252 ?_
    refine n_inc2 (v := 9) rfl (Nat.le_of_ble_eq_true rfl) (by decide) eX11_init_253 ?_
    refine n_goto eX11_init_256 ?_
    refine n_ild2 eX11_init_237 ?_
    refine n_ald0 eX11_init_238 ?_
    refine b_getR (ci := 10) (j := 14) rfl (Nat.le_of_ble_eq_true rfl) (Nat.le_of_ble_eq_true rfl) (by decide) (by decide) rfl rfl fl_X11_59 eX11_init_239 ?_
    refine b_alen (v := 16) (by decide) (by decide) (Nat.le_of_ble_eq_true rfl) (Nat.le_of_ble_eq_true rfl) (by decide) eX11_init_242 ?_
    refine n_icmp_ge eX11_init_243 (fun h => absurd h (by decide)) (fun _ => ?_)
    refine n_ald0 eX11_init_246 ?_
    refine b_getR (ci := 10) (j := 14) rfl (Nat.le_of_ble_eq_true rfl) (Nat.le_of_ble_eq_true rfl) (by decide) (by decide) rfl rfl fl_X11_59 eX11_init_247 ?_
    refine n_ild2 eX11_init_250 ?_
    refine n_iconst (v := (-1)) (by decide) eX11_init_251 ?_
    refine b_iast (j := 9) rfl (Nat.le_of_ble_eq_true rfl) (Nat.le_of_ble_eq_true rfl) (by decide) (vp_in_nI (n := 9) (N := 16) (by decide) (by decide)) eX11_init_252 ?_
    refine n_inc2 (v := 10) rfl (Nat.le_of_ble_eq_true rfl) (by decide) eX11_init_253 ?_
    refine n_goto eX11_init_256 ?_
    refine n_ild2 eX11_init_237 ?_
    refine n_ald0 eX11_init_238 ?_
    refine b_getR (ci := 10) (j := 14) rfl (Nat.le_of_ble_eq_true rfl) (Nat.le_of_ble_eq_true rfl) (by decide) (by decide) rfl rfl fl_X11_59 eX11_init_239 ?_
    refine b_alen (v := 16) (by decide) (by decide) (Nat.le_of_ble_eq_true rfl) (Nat.le_of_ble_eq_true rfl) (by decide) eX11_init_242 ?_
    refine n_icmp_ge eX11_init_243 (fun h => absurd h (by decide)) (fun _ => ?_)
    refine n_ald0 eX11_init_246 ?_
    refine b_getR (ci := 10) (j := 14) rfl (Nat.le_of_ble_eq_true rfl) (Nat.le_of_ble_eq_true rfl) (by decide) (by decide) rfl rfl fl_X11_59 eX11_init_247 ?_
    refine n_ild2 eX11_init_250 ?_
    refine n_iconst (v := (-1)) (by decide) eX11_init_251 ?_
    refine b_iast (j := 10) rfl (Nat.le_of_ble_eq_true rfl) (Nat.le_of_ble_eq_true rfl) (by decide) (vp_in_nI (n := 10) (N := 16) (by decide) (by decide)) eX11_init_252 ?_
    refine n_inc2 (v := 11) rfl (Nat.le_of_ble_eq_true rfl) (by decide) eX11_init_253 ?_
    refine n_goto eX11_init_256 ?_
    refine n_ild2 eX11_init_237 ?_
    refine n_ald0 eX11_init_238 ?_
    refine b_getR (ci := 10) (j := 14) rfl (Nat.le_of_ble_eq_true rfl) (Nat.le_of_ble_eq_true rfl) (by decide) (by decide) rfl rfl fl_X11_59 eX11_init_239 ?_
    refine b_alen (v := 16) (by decide) (by decide) (Nat.le_of_ble_eq_true rfl) (Nat.le_of_ble_eq_true rfl) (by decide) eX11_init_242 ?_
    refine n_icmp_ge eX11_init_243 (fun h => absurd h (by decide)) (fun _ => ?_)
    refine n_ald0 eX11_init_246 ?_
    refine b_getR (ci := 10) (j := 14) rfl (Nat.le_of_ble_eq_true rfl) (Nat.le_of_ble_eq_true rfl) (by decide) (by decide) rfl rfl fl_X11_59 eX11_init_247 ?_
    refine n_ild2 eX11_init_250 ?_
    refine n_iconst (v := (-1)) (by decide) eX11_init_251 ?_
    refine b_iast (j := 11) rfl (Nat.le_of_ble_eq_true rfl) (Nat.le_of_ble_eq_true rfl) (by decide) (vp_in_nI (n := 11) (N := 16) (by decide) (by decide)) eX11_init_252 ?_
    refine n_inc2 (v := 12) rfl (Nat.le_of_ble_eq_true rfl) (by decide) eX11_init_253 ?_
    refine n_goto eX11_init_256 ?_
    refine n_ild2 eX11_init_237 ?_
    refine n_ald0 eX11_init_238 ?_
    refine b_getR (ci := 10) (j := 14) rfl (Nat.le_of_ble_eq_true rfl) (Nat.le_of_ble_eq_true rfl) (by decide) (by decide) rfl rfl fl_X11_59 eX11_init_239 ?_
    refine b_alen (v := 16) (by decide) (by decide) (Nat.le_of_ble_eq_true rfl) (Nat.le_of_ble_eq_true rfl) (by decide) eX11_init_242 ?_
    refine n_icmp_ge eX11_init_243 (fun h => absurd h (by decide)) (fun _ => ?_)
    refine n_ald0 eX11_init_246 ?_
    refine b_getR (ci := 10) (j := 14) rfl (Nat.le_of_ble_eq_true rfl) (Nat.le_of_ble_eq_true rfl) (by decide) (by decide) rfl rfl fl_X11_59 eX11_init_247 ?_
    refine n_ild2 eX11_init_250 ?_
    refine n_iconst (v := (-1)) (by decide) eX11_init_251 ?_
    refine b_iast (j := 12) rfl (Nat.le_of_ble_eq_true rfl) (Nat.le_of_ble_eq_true rfl) (by decide) (vp_in_nI (n := 12) (N := 16) (by decide) (by decide)) eX11_init_252 ?_
    refine n_inc2 (v := 13) rfl (Nat.le_of_ble_eq_true rfl) (by decide) eX11_init_253 ?_
    refine n_goto eX11_init_256 ?_
    refine n_ild2 eX11_init_237 ?_
    refine n_ald0 eX11_init_238 ?_
    refine b_getR (ci := 10) (j := 14) rfl (Nat.le_of_ble_eq_true rfl) (Nat.le_of_ble_eq_true rfl) (by decide) (by decide) rfl rfl fl_X11_59 eX11_init_239 ?_
    refine b_alen (v := 16) (by decide) (by decide) (Nat.le_of_ble_eq_true rfl) (Nat.le_of_ble_eq_true rfl) (by decide) eX11_init_242 ?_
    refine n_icmp_ge eX11_init_243 (fun h => absurd h (by decide)) (fun _ => ?_)
    refine n_ald0 eX11_init_246 ?_
    refine b_getR (ci := 10) (j := 14) rfl (Nat.le_of_ble_eq_true rfl) (Nat.le_of_ble_eq_true rfl) (by decide) (by decide) rfl rfl fl_X11_59 eX11_init_247 ?_
    refine n_ild2 eX11_init_250 ?_
    refine n_iconst (v := (-1)) (by decide) eX11_init_251 ?_
    refine b_iast (j := 13) rfl (Nat.le_of_ble_eq_true rfl) (Nat.le_of_ble_eq_true rfl) (by decide) (vp_in_nI (n := 13) (N := 16) (by decide) (by decide)) eX11_init_252 ?_
    refine n_inc2 (v := 14) rfl (Nat.le_of_ble_eq_true rfl) (by decide) eX11_init_253 ?_
    refine n_goto eX11_init_256 ?_
    refine n_ild2 eX11_init_237 ?_
    refine n_ald0 eX11_init_238 ?_
    refine b_getR (ci := 10) (j := 14) rfl (Nat.le_of_ble_eq_true rfl) (Nat.le_of_ble_eq_true rfl) (by decide) (by decide) rfl rfl fl_X11_59 eX11_init_239 ?_
    refine b_alen (v := 16) (by decide) (by decide) (Nat.le_of_ble_eq_true rfl) (Nat.le_of_ble_eq_true rfl) (by decide) eX11_init_242 ?_
    refine n_icmp_ge eX11_init_243 (fun h => absurd h (by decide)) (fun _ => ?_)
    refine n_ald0 eX11_init_246 ?_
    refine b_getR (ci := 10) (j := 14) rfl (Nat.le_of_ble_eq_true rfl) (Nat.le_of_ble_eq_true rfl) (by decide) (by decide) rfl rfl fl_X11_59 eX11_init_247 ?_
    refine n_ild2 eX11_init_250 ?_
    refine n_iconst (v := (-1)) (by decide) eX11_init_251 ?_
    refine b_iast (j := 14) rfl (Nat.le_of_ble_eq_true rfl) (Nat.le_of_ble_eq_true rfl) (by decide) (vp_in_nI (n := 14) (N := 16) (by decide) (by decide)) eX11_init_252 ?_
    refine n_inc2 (v := 15) rfl (Nat.le_of_ble_eq_true rfl) (by decide) eX11_init_253 ?_
    refine n_goto eX11_init_256 ?_
    refine n_ild2 eX11_init_237 ?_
    refine n_ald0 eX11_init_238 ?_
    refine b_getR (ci := 10) (j := 14) rfl (Nat.le_of_ble_eq_true rfl) (Nat.le_of_ble_eq_true rfl) (by decide) (by decide) rfl rfl fl_X11_59 eX11_init_239 ?_
    refine b_alen (v := 16) (by decide) (by decide) (Nat.le_of_ble_eq_true rfl) (Nat.le_of_ble_eq_true rfl) (by decide) eX11_init_242 ?_
    refine n_icmp_ge eX11_init_243 (fun h => absurd h (by decide)) (fun _ => ?_)
    refine n_ald0 eX11_init_246 ?_
    refine b_getR (ci := 10) (j := 14) rfl (Nat.le_of_ble_eq_true rfl) (Nat.le_of_ble_eq_true rfl) (by decide) (by decide) rfl rfl fl_X11_59 eX11_init_247 ?_
    refine n_ild2 eX11_init_250 ?_
    refine n_iconst (v := (-1)) (by decide) eX11_init_251 ?_
    refine b_iast (j := 15) rfl (Nat.le_of_ble_eq_true rfl) (Nat.le_of_ble_eq_true rfl) (by decide) (vp_in_nI (n := 15) (N := 16) (by decide) (by decide)) eX11_init_252 ?_
    refine n_inc2 (v := 16) rfl (Nat.le_of_ble_eq_true rfl) (by decide) eX11_init_253 ?_
    refine n_goto eX11_init_256 ?_
    refine n_ild2 eX11_init_237 ?_
    refine n_ald0 eX11_init_238 ?_
    refine b_getR (ci := 10) (j := 14) rfl (Nat.le_of_ble_eq_true rfl) (Nat.le_of_ble_eq_true rfl) (by decide) (by decide) rfl rfl fl_X11_59 eX11_init_239 ?_
    refine b_alen (v := 16) (by decide) (by decide) (Nat.le_of_ble_eq_true rfl) (Nat.le_of_ble_eq_true rfl) (by decide) eX11_init_242 ?_
    refine n_icmp_ge eX11_init_243 (fun _ => ?_) (fun h => absurd (by decide) h)
    exact b_vret (d := 0) rfl (Nat.le_of_ble_eq_true rfl) (Nat.le_of_ble_eq_true rfl) eX11_init_259
  refine n_ald0 eX11_init_0 ?_
  refine b_init wob_X11 ⟨Nat.le_of_ble_eq_true rfl, Nat.le_of_ble_eq_true rfl⟩ (Nat.le_of_ble_eq_true rfl) eX11_init_1 ?_
  refine n_ald0 eX11_init_4 ?_
  refine b_new (k := 1) (ci := 8) rfl (by decide) rfl wn_X11_7 ⟨Nat.le_of_ble_eq_true rfl, Nat.le_of_ble_eq_true rfl⟩ eX11_init_5 ?_
  refine n_dup rfl eX11_init_8 ?_
  refine b_callN (B := NB) (i_tape _ _ (fun j => rfl)) hB.2.2.1 ci_X11_9 ⟨rfl, rfl⟩ eX11_init_9 ⟨Nat.le_of_ble_eq_true rfl, Nat.le_of_ble_eq_true rfl⟩ ⟨Nat.le_of_ble_eq_true rfl, Nat.le_of_ble_eq_true rfl⟩ rfl (Nat.le_of_ble_eq_true rfl) (fun _ _ _ _ h => h.call) (fun _ _ _ _ _ hW => hB.warm hW) ?_
  refine b_putR (ci := 10) (j := 1) rfl (Nat.le_of_ble_eq_true rfl) (Nat.le_of_ble_eq_true rfl) (by decide) (by decide) rfl rfl hin rfl fl_X11_10 eX11_init_12 ?_
  refine n_ald0 eX11_init_15 ?_
  refine b_new (k := 3) (ci := 1) rfl (by decide) rfl wn_X11_16 ⟨Nat.le_of_ble_eq_true rfl, Nat.le_of_ble_eq_true rfl⟩ eX11_init_16 ?_
  refine n_dup rfl eX11_init_19 ?_
  refine b_callN (B := NB) (i_grammar _ _ (fun j => rfl) (fun j => rfl)) hB.2.2.2.1 ci_X11_18 ⟨rfl, rfl⟩ eX11_init_20 ⟨Nat.le_of_ble_eq_true rfl, Nat.le_of_ble_eq_true rfl⟩ ⟨Nat.le_of_ble_eq_true rfl, Nat.le_of_ble_eq_true rfl⟩ rfl (Nat.le_of_ble_eq_true rfl) (fun _ _ _ _ h => h.call) (fun _ _ _ _ _ hW => hB.warm hW) ?_
  refine b_putR (ci := 10) (j := 2) rfl (Nat.le_of_ble_eq_true rfl) (Nat.le_of_ble_eq_true rfl) (by decide) (by decide) rfl rfl hin rfl fl_X11_19 eX11_init_23 ?_
  refine n_ald0 eX11_init_26 ?_
  refine n_iconst (v := (-1)) (by decide) eX11_init_27 ?_
  refine b_putI (ci := 10) (j := 5) rfl (Nat.le_of_ble_eq_true rfl) (Nat.le_of_ble_eq_true rfl) (by decide) (by decide) (Or.inl rfl) hin rfl fl_X11_23 eX11_init_28 ?_
  refine n_ald0 eX11_init_31 ?_
  refine n_iconst (v := 4) (by decide) eX11_init_32 ?_
  refine b_newq (k := 16) (N := 4) (Or.inl rfl) rfl rfl hB.2.2.2.2.2.2.2.1 wn_X11_27.1 ⟨by decide, by decide⟩ (Nat.le_of_ble_eq_true rfl) ⟨Nat.le_of_ble_eq_true rfl, Nat.le_of_ble_eq_true rfl⟩ eX11_init_33 ?_
  refine b_putR (ci := 10) (j := 6) rfl (Nat.le_of_ble_eq_true rfl) (Nat.le_of_ble_eq_true rfl) (by decide) (by decide) rfl rfl hin rfl fl_X11_29 eX11_init_36 ?_
  refine n_ald0 eX11_init_39 ?_
  refine n_iconst (v := 0) (by decide) eX11_init_40 ?_
  refine b_put0 (ci := 10) (j := 7) rfl (Nat.le_of_ble_eq_true rfl) (Nat.le_of_ble_eq_true rfl) (by decide) (by decide) (Or.inl rfl) rfl hin rfl fl_X11_33 eX11_init_41 ?_
  refine n_ald0 eX11_init_44 ?_
  refine b_new (k := 17) (ci := 7) rfl (by decide) rfl wn_X11_36 ⟨Nat.le_of_ble_eq_true rfl, Nat.le_of_ble_eq_true rfl⟩ eX11_init_45 ?_
  refine n_dup rfl eX11_init_48 ?_
  refine b_callN (B := NB) (i_rows _ _ (fun j => rfl)) hB.2.2.2.2.1 ci_X11_38 ⟨rfl, rfl⟩ eX11_init_49 ⟨Nat.le_of_ble_eq_true rfl, Nat.le_of_ble_eq_true rfl⟩ ⟨Nat.le_of_ble_eq_true rfl, Nat.le_of_ble_eq_true rfl⟩ rfl (Nat.le_of_ble_eq_true rfl) (fun _ _ _ _ h => h.call) (fun _ _ _ _ _ hW => hB.warm hW) ?_
  refine b_putR (ci := 10) (j := 8) rfl (Nat.le_of_ble_eq_true rfl) (Nat.le_of_ble_eq_true rfl) (by decide) (by decide) rfl rfl hin rfl fl_X11_39 eX11_init_52 ?_
  refine n_ald0 eX11_init_55 ?_
  refine n_iconst (v := 4) (by decide) eX11_init_56 ?_
  refine b_newq (k := 22) (N := 4) (Or.inr rfl) rfl rfl hB.2.2.2.2.2.2.2.2 wn_X11_43.1 ⟨by decide, by decide⟩ (Nat.le_of_ble_eq_true rfl) ⟨Nat.le_of_ble_eq_true rfl, Nat.le_of_ble_eq_true rfl⟩ eX11_init_57 ?_
  refine b_putR (ci := 10) (j := 9) rfl (Nat.le_of_ble_eq_true rfl) (Nat.le_of_ble_eq_true rfl) (by decide) (by decide) rfl rfl hin rfl fl_X11_45 eX11_init_60 ?_
  refine n_ald0 eX11_init_63 ?_
  refine n_iconst (v := 0) (by decide) eX11_init_64 ?_
  refine b_put0 (ci := 10) (j := 10) rfl (Nat.le_of_ble_eq_true rfl) (Nat.le_of_ble_eq_true rfl) (by decide) (by decide) (Or.inl rfl) rfl hin rfl fl_X11_49 eX11_init_65 ?_
  refine n_ald0 eX11_init_68 ?_
  refine n_bipush (v := 6) (by decide) eX11_init_69 ?_
  refine b_newa (k := 23) (N := 6) (Or.inr (Or.inl rfl)) rfl rfl rfl wa_13 ⟨by decide, by decide⟩ (Nat.le_of_ble_eq_true rfl) ⟨Nat.le_of_ble_eq_true rfl, Nat.le_of_ble_eq_true rfl⟩ eX11_init_71 ?_
  refine b_putR (ci := 10) (j := 11) rfl (Nat.le_of_ble_eq_true rfl) (Nat.le_of_ble_eq_true rfl) (by decide) (by decide) rfl rfl hin rfl fl_X11_52 eX11_init_73 ?_
  refine n_ald0 eX11_init_76 ?_
  refine n_bipush (v := 16) (by decide) eX11_init_77 ?_
  refine b_newa (k := 28) (N := 16) (Or.inr (Or.inl rfl)) rfl rfl rfl wa_13 ⟨by decide, by decide⟩ (Nat.le_of_ble_eq_true rfl) ⟨Nat.le_of_ble_eq_true rfl, Nat.le_of_ble_eq_true rfl⟩ eX11_init_79 ?_
  refine b_putR (ci := 10) (j := 13) rfl (Nat.le_of_ble_eq_true rfl) (Nat.le_of_ble_eq_true rfl) (by decide) (by decide) rfl rfl hin rfl fl_X11_56 eX11_init_81 ?_
  refine n_ald0 eX11_init_84 ?_
  refine n_bipush (v := 16) (by decide) eX11_init_85 ?_
  refine b_newa (k := 29) (N := 16) (Or.inr (Or.inl rfl)) rfl rfl rfl wa_13 ⟨by decide, by decide⟩ (Nat.le_of_ble_eq_true rfl) ⟨Nat.le_of_ble_eq_true rfl, Nat.le_of_ble_eq_true rfl⟩ eX11_init_87 ?_
  refine b_putR (ci := 10) (j := 14) rfl (Nat.le_of_ble_eq_true rfl) (Nat.le_of_ble_eq_true rfl) (by decide) (by decide) rfl rfl hin rfl fl_X11_59 eX11_init_89 ?_
  refine n_ald0 eX11_init_92 ?_
  refine n_iconst (v := 0) (by decide) eX11_init_93 ?_
  refine b_put0 (ci := 10) (j := 15) rfl (Nat.le_of_ble_eq_true rfl) (Nat.le_of_ble_eq_true rfl) (by decide) (by decide) (Or.inl rfl) rfl hin rfl fl_X11_62 eX11_init_94 ?_
  refine n_ald0 eX11_init_97 ?_
  refine n_ild1 eX11_init_98 ?_
  refine n_iconst (v := 2) (by decide) eX11_init_99 ?_
  refine n_icmp_lt eX11_init_100 (fun h2 => ?_) (fun h2 => ?_)
  · rw [if_pos (Or.inl h2)] at htv
    subst htv
    refine n_iconst (v := 2) (by decide) eX11_init_109 ?_
    refine n_goto eX11_init_110 ?_
    exact k2
  · refine n_ild1 eX11_init_103 ?_
    refine n_bipush (v := 13) (by decide) eX11_init_104 ?_
    refine n_icmp_le eX11_init_106 (fun h3 => ?_) (fun h3 => ?_)
    · rw [if_neg (fun q => q.elim h2 (fun q => absurd h3 (Int32.not_le.mpr q)))] at htv
      subst htv
      refine n_ild1 eX11_init_113 ?_
      exact k2
    · rw [if_pos (Or.inr (Int32.not_le.mp h3))] at htv
      subst htv
      refine n_iconst (v := 2) (by decide) eX11_init_109 ?_
      refine n_goto eX11_init_110 ?_
      exact k2
end IB
