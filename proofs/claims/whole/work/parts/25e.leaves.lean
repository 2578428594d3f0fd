/-! the constructors (written by wip/tools/gen25.py) -/
section IC
variable {l : Launch} {D : va_G} {cy : Nat → ClassId} {ad : Nat → Nat} {bs : Nat}
theorem i_parts0 (Lr : RL9) (st : St) (hz84 : ∀ j, st.1 84 j = 0) : MB l D cy ad bs 1 1 7 YX6_init NB [.ref 84] 32 Lr st none 33 ((84, 0) :: Lr) st := by
  refine MB.ofG [some (.ref 84)] (by decide) (Nat.le_of_ble_eq_true rfl) rfl ?_
  intro p e s m args below meth c hin hB
  refine n_ald0 eX6_init_0 ?_
  refine b_init wob_X6 ⟨Nat.le_of_ble_eq_true rfl, Nat.le_of_ble_eq_true rfl⟩ (Nat.le_of_ble_eq_true rfl) eX6_init_1 ?_
  refine n_ald0 eX6_init_4 ?_
  refine n_bipush (v := 7) (by decide) eX6_init_5 ?_
  refine b_newa (k := 85) (N := 7) (Or.inr (Or.inl rfl)) rfl rfl rfl wa_13 ⟨by decide, by decide⟩ (Nat.le_of_ble_eq_true rfl) ⟨Nat.le_of_ble_eq_true rfl, Nat.le_of_ble_eq_true rfl⟩ eX6_init_7 ?_
  refine b_putR (ci := 5) (j := 0) rfl (Nat.le_of_ble_eq_true rfl) (Nat.le_of_ble_eq_true rfl) (by decide) (by decide) rfl rfl hin rfl fl_X6_9 eX6_init_9 ?_
  refine n_ald0 eX6_init_12 ?_
  refine n_iconst (v := 0) (by decide) eX6_init_13 ?_
  refine b_put0 (ci := 5) (j := 1) rfl (Nat.le_of_ble_eq_true rfl) (Nat.le_of_ble_eq_true rfl) (by decide) (by decide) (Or.inl rfl) (hz84 1) hin rfl fl_X6_13 eX6_init_14 ?_
  refine n_ald0 eX6_init_17 ?_
  refine n_iconst (v := 0) (by decide) eX6_init_18 ?_
  refine b_put0 (ci := 5) (j := 2) rfl (Nat.le_of_ble_eq_true rfl) (Nat.le_of_ble_eq_true rfl) (by decide) (by decide) (Or.inl rfl) (hz84 2) hin rfl fl_X6_17 eX6_init_19 ?_
  exact b_vret (d := 0) rfl (Nat.le_of_ble_eq_true rfl) (Nat.le_of_ble_eq_true rfl) eX6_init_22
theorem i_key0 (Lr : RL9) (st : St) (hz83 : ∀ j, st.1 83 j = 0) (hz84 : ∀ j, st.1 84 j = 0) : MB l D cy ad bs 2 2 10 YX2_init NB [.ref 83] 31 Lr st none 33 ((83, 4) :: (84, 0) :: Lr) (sI (sI st 83 0 101) 83 1 10) := by
  refine MB.ofG [some (.ref 83)] (by decide) (Nat.le_of_ble_eq_true rfl) rfl ?_
  intro p e s m args below meth c hin hB
  refine n_ald0 eX2_init_0 ?_
  refine b_init wob_X2 ⟨Nat.le_of_ble_eq_true rfl, Nat.le_of_ble_eq_true rfl⟩ (Nat.le_of_ble_eq_true rfl) eX2_init_1 ?_
  refine n_ald0 eX2_init_4 ?_
  refine n_bipush (v := 101) (by decide) eX2_init_5 ?_
  refine b_putI (ci := 2) (j := 0) rfl (Nat.le_of_ble_eq_true rfl) (Nat.le_of_ble_eq_true rfl) (by decide) (by decide) (Or.inl rfl) hin rfl fl_X2_7 eX2_init_7 ?_
  refine n_ald0 eX2_init_10 ?_
  refine n_bipush (v := 10) (by decide) eX2_init_11 ?_
  refine b_putI (ci := 2) (j := 1) rfl (Nat.le_of_ble_eq_true rfl) (Nat.le_of_ble_eq_true rfl) (by decide) (by decide) (Or.inl rfl) hin rfl fl_X2_13 eX2_init_13 ?_
  refine n_ald0 eX2_init_16 ?_
  refine n_iconst (v := 0) (by decide) eX2_init_17 ?_
  refine b_put0 (ci := 2) (j := 2) rfl (Nat.le_of_ble_eq_true rfl) (Nat.le_of_ble_eq_true rfl) (by decide) (by decide) (Or.inl rfl) (hz83 2) hin rfl fl_X2_16 eX2_init_18 ?_
  refine n_ald0 eX2_init_21 ?_
  refine n_iconst (v := 0) (by decide) eX2_init_22 ?_
  refine b_put0 (ci := 2) (j := 3) rfl (Nat.le_of_ble_eq_true rfl) (Nat.le_of_ble_eq_true rfl) (by decide) (by decide) (Or.inr rfl) (hz83 3) hin rfl fl_X2_19 eX2_init_23 ?_
  refine n_ald0 eX2_init_26 ?_
  refine b_new (k := 84) (ci := 5) rfl (by decide) rfl wn_X2_23 ⟨Nat.le_of_ble_eq_true rfl, Nat.le_of_ble_eq_true rfl⟩ eX2_init_27 ?_
  refine n_dup rfl eX2_init_30 ?_
  refine b_callN (B := NB) (i_parts0 _ _ (fun j => hz84 j)) hB.2.1 ci_X2_25 ⟨rfl, rfl⟩ eX2_init_31 ⟨Nat.le_of_ble_eq_true rfl, Nat.le_of_ble_eq_true rfl⟩ ⟨Nat.le_of_ble_eq_true rfl, Nat.le_of_ble_eq_true rfl⟩ rfl (Nat.le_of_ble_eq_true rfl) (fun _ _ _ _ h => h.call) (fun _ _ _ _ _ hW => hB.warm hW) ?_
  refine b_putR (ci := 2) (j := 4) rfl (Nat.le_of_ble_eq_true rfl) (Nat.le_of_ble_eq_true rfl) (by decide) (by decide) rfl rfl hin rfl fl_X2_26 eX2_init_34 ?_
  exact b_vret (d := 0) rfl (Nat.le_of_ble_eq_true rfl) (Nat.le_of_ble_eq_true rfl) eX2_init_37
theorem i_parts1 (Lr : RL9) (st : St) (hz87 : ∀ j, st.1 87 j = 0) : MB l D cy ad bs 1 1 7 YX6_init NB [.ref 87] 35 Lr st none 36 ((87, 0) :: Lr) st := by
  refine MB.ofG [some (.ref 87)] (by decide) (Nat.le_of_ble_eq_true rfl) rfl ?_
  intro p e s m args below meth c hin hB
  refine n_ald0 eX6_init_0 ?_
  refine b_init wob_X6 ⟨Nat.le_of_ble_eq_true rfl, Nat.le_of_ble_eq_true rfl⟩ (Nat.le_of_ble_eq_true rfl) eX6_init_1 ?_
  refine n_ald0 eX6_init_4 ?_
  refine n_bipush (v := 7) (by decide) eX6_init_5 ?_
  refine b_newa (k := 88) (N := 7) (Or.inr (Or.inl rfl)) rfl rfl rfl wa_13 ⟨by decide, by decide⟩ (Nat.le_of_ble_eq_true rfl) ⟨Nat.le_of_ble_eq_true rfl, Nat.le_of_ble_eq_true rfl⟩ eX6_init_7 ?_
  refine b_putR (ci := 5) (j := 0) rfl (Nat.le_of_ble_eq_true rfl) (Nat.le_of_ble_eq_true rfl) (by decide) (by decide) rfl rfl hin rfl fl_X6_9 eX6_init_9 ?_
  refine n_ald0 eX6_init_12 ?_
  refine n_iconst (v := 0) (by decide) eX6_init_13 ?_
  refine b_put0 (ci := 5) (j := 1) rfl (Nat.le_of_ble_eq_true rfl) (Nat.le_of_ble_eq_true rfl) (by decide) (by decide) (Or.inl rfl) (hz87 1) hin rfl fl_X6_13 eX6_init_14 ?_
  refine n_ald0 eX6_init_17 ?_
  refine n_iconst (v := 0) (by decide) eX6_init_18 ?_
  refine b_put0 (ci := 5) (j := 2) rfl (Nat.le_of_ble_eq_true rfl) (Nat.le_of_ble_eq_true rfl) (by decide) (by decide) (Or.inl rfl) (hz87 2) hin rfl fl_X6_17 eX6_init_19 ?_
  exact b_vret (d := 0) rfl (Nat.le_of_ble_eq_true rfl) (Nat.le_of_ble_eq_true rfl) eX6_init_22
theorem i_key1 (Lr : RL9) (st : St) (hz86 : ∀ j, st.1 86 j = 0) (hz87 : ∀ j, st.1 87 j = 0) : MB l D cy ad bs 2 2 10 YX2_init NB [.ref 86] 34 Lr st none 36 ((86, 4) :: (87, 0) :: Lr) (sI (sI st 86 0 101) 86 1 10) := by
  refine MB.ofG [some (.ref 86)] (by decide) (Nat.le_of_ble_eq_true rfl) rfl ?_
  intro p e s m args below meth c hin hB
  refine n_ald0 eX2_init_0 ?_
  refine b_init wob_X2 ⟨Nat.le_of_ble_eq_true rfl, Nat.le_of_ble_eq_true rfl⟩ (Nat.le_of_ble_eq_true rfl) eX2_init_1 ?_
  refine n_ald0 eX2_init_4 ?_
  refine n_bipush (v := 101) (by decide) eX2_init_5 ?_
  refine b_putI (ci := 2) (j := 0) rfl (Nat.le_of_ble_eq_true rfl) (Nat.le_of_ble_eq_true rfl) (by decide) (by decide) (Or.inl rfl) hin rfl fl_X2_7 eX2_init_7 ?_
  refine n_ald0 eX2_init_10 ?_
  refine n_bipush (v := 10) (by decide) eX2_init_11 ?_
  refine b_putI (ci := 2) (j := 1) rfl (Nat.le_of_ble_eq_true rfl) (Nat.le_of_ble_eq_true rfl) (by decide) (by decide) (Or.inl rfl) hin rfl fl_X2_13 eX2_init_13 ?_
  refine n_ald0 eX2_init_16 ?_
  refine n_iconst (v := 0) (by decide) eX2_init_17 ?_
  refine b_put0 (ci := 2) (j := 2) rfl (Nat.le_of_ble_eq_true rfl) (Nat.le_of_ble_eq_true rfl) (by decide) (by decide) (Or.inl rfl) (hz86 2) hin rfl fl_X2_16 eX2_init_18 ?_
  refine n_ald0 eX2_init_21 ?_
  refine n_iconst (v := 0) (by decide) eX2_init_22 ?_
  refine b_put0 (ci := 2) (j := 3) rfl (Nat.le_of_ble_eq_true rfl) (Nat.le_of_ble_eq_true rfl) (by decide) (by decide) (Or.inr rfl) (hz86 3) hin rfl fl_X2_19 eX2_init_23 ?_
  refine n_ald0 eX2_init_26 ?_
  refine b_new (k := 87) (ci := 5) rfl (by decide) rfl wn_X2_23 ⟨Nat.le_of_ble_eq_true rfl, Nat.le_of_ble_eq_true rfl⟩ eX2_init_27 ?_
  refine n_dup rfl eX2_init_30 ?_
  refine b_callN (B := NB) (i_parts1 _ _ (fun j => hz87 j)) hB.2.1 ci_X2_25 ⟨rfl, rfl⟩ eX2_init_31 ⟨Nat.le_of_ble_eq_true rfl, Nat.le_of_ble_eq_true rfl⟩ ⟨Nat.le_of_ble_eq_true rfl, Nat.le_of_ble_eq_true rfl⟩ rfl (Nat.le_of_ble_eq_true rfl) (fun _ _ _ _ h => h.call) (fun _ _ _ _ _ hW => hB.warm hW) ?_
  refine b_putR (ci := 2) (j := 4) rfl (Nat.le_of_ble_eq_true rfl) (Nat.le_of_ble_eq_true rfl) (by decide) (by decide) rfl rfl hin rfl fl_X2_26 eX2_init_34 ?_
  exact b_vret (d := 0) rfl (Nat.le_of_ble_eq_true rfl) (Nat.le_of_ble_eq_true rfl) eX2_init_37
theorem i_parts2 (Lr : RL9) (st : St) (hz90 : ∀ j, st.1 90 j = 0) : MB l D cy ad bs 1 1 7 YX6_init NB [.ref 90] 38 Lr st none 39 ((90, 0) :: Lr) st := by
  refine MB.ofG [some (.ref 90)] (by decide) (Nat.le_of_ble_eq_true rfl) rfl ?_
  intro p e s m args below meth c hin hB
  refine n_ald0 eX6_init_0 ?_
  refine b_init wob_X6 ⟨Nat.le_of_ble_eq_true rfl, Nat.le_of_ble_eq_true rfl⟩ (Nat.le_of_ble_eq_true rfl) eX6_init_1 ?_
  refine n_ald0 eX6_init_4 ?_
  refine n_bipush (v := 7) (by decide) eX6_init_5 ?_
  refine b_newa (k := 91) (N := 7) (Or.inr (Or.inl rfl)) rfl rfl rfl wa_13 ⟨by decide, by decide⟩ (Nat.le_of_ble_eq_true rfl) ⟨Nat.le_of_ble_eq_true rfl, Nat.le_of_ble_eq_true rfl⟩ eX6_init_7 ?_
  refine b_putR (ci := 5) (j := 0) rfl (Nat.le_of_ble_eq_true rfl) (Nat.le_of_ble_eq_true rfl) (by decide) (by decide) rfl rfl hin rfl fl_X6_9 eX6_init_9 ?_
  refine n_ald0 eX6_init_12 ?_
  refine n_iconst (v := 0) (by decide) eX6_init_13 ?_
  refine b_put0 (ci := 5) (j := 1) rfl (Nat.le_of_ble_eq_true rfl) (Nat.le_of_ble_eq_true rfl) (by decide) (by decide) (Or.inl rfl) (hz90 1) hin rfl fl_X6_13 eX6_init_14 ?_
  refine n_ald0 eX6_init_17 ?_
  refine n_iconst (v := 0) (by decide) eX6_init_18 ?_
  refine b_put0 (ci := 5) (j := 2) rfl (Nat.le_of_ble_eq_true rfl) (Nat.le_of_ble_eq_true rfl) (by decide) (by decide) (Or.inl rfl) (hz90 2) hin rfl fl_X6_17 eX6_init_19 ?_
  exact b_vret (d := 0) rfl (Nat.le_of_ble_eq_true rfl) (Nat.le_of_ble_eq_true rfl) eX6_init_22
theorem i_key2 (Lr : RL9) (st : St) (hz89 : ∀ j, st.1 89 j = 0) (hz90 : ∀ j, st.1 90 j = 0) : MB l D cy ad bs 2 2 10 YX2_init NB [.ref 89] 37 Lr st none 39 ((89, 4) :: (90, 0) :: Lr) (sI (sI st 89 0 101) 89 1 10) := by
  refine MB.ofG [some (.ref 89)] (by decide) (Nat.le_of_ble_eq_true rfl) rfl ?_
  intro p e s m args below meth c hin hB
  refine n_ald0 eX2_init_0 ?_
  refine b_init wob_X2 ⟨Nat.le_of_ble_eq_true rfl, Nat.le_of_ble_eq_true rfl⟩ (Nat.le_of_ble_eq_true rfl) eX2_init_1 ?_
  refine n_ald0 eX2_init_4 ?_
  refine n_bipush (v := 101) (by decide) eX2_init_5 ?_
  refine b_putI (ci := 2) (j := 0) rfl (Nat.le_of_ble_eq_true rfl) (Nat.le_of_ble_eq_true rfl) (by decide) (by decide) (Or.inl rfl) hin rfl fl_X2_7 eX2_init_7 ?_
  refine n_ald0 eX2_init_10 ?_
  refine n_bipush (v := 10) (by decide) eX2_init_11 ?_
  refine b_putI (ci := 2) (j := 1) rfl (Nat.le_of_ble_eq_true rfl) (Nat.le_of_ble_eq_true rfl) (by decide) (by decide) (Or.inl rfl) hin rfl fl_X2_13 eX2_init_13 ?_
  refine n_ald0 eX2_init_16 ?_
  refine n_iconst (v := 0) (by decide) eX2_init_17 ?_
  refine b_put0 (ci := 2) (j := 2) rfl (Nat.le_of_ble_eq_true rfl) (Nat.le_of_ble_eq_true rfl) (by decide) (by decide) (Or.inl rfl) (hz89 2) hin rfl fl_X2_16 eX2_init_18 ?_
  refine n_ald0 eX2_init_21 ?_
  refine n_iconst (v := 0) (by decide) eX2_init_22 ?_
  refine b_put0 (ci := 2) (j := 3) rfl (Nat.le_of_ble_eq_true rfl) (Nat.le_of_ble_eq_true rfl) (by decide) (by decide) (Or.inr rfl) (hz89 3) hin rfl fl_X2_19 eX2_init_23 ?_
  refine n_ald0 eX2_init_26 ?_
  refine b_new (k := 90) (ci := 5) rfl (by decide) rfl wn_X2_23 ⟨Nat.le_of_ble_eq_true rfl, Nat.le_of_ble_eq_true rfl⟩ eX2_init_27 ?_
  refine n_dup rfl eX2_init_30 ?_
  refine b_callN (B := NB) (i_parts2 _ _ (fun j => hz90 j)) hB.2.1 ci_X2_25 ⟨rfl, rfl⟩ eX2_init_31 ⟨Nat.le_of_ble_eq_true rfl, Nat.le_of_ble_eq_true rfl⟩ ⟨Nat.le_of_ble_eq_true rfl, Nat.le_of_ble_eq_true rfl⟩ rfl (Nat.le_of_ble_eq_true rfl) (fun _ _ _ _ h => h.call) (fun _ _ _ _ _ hW => hB.warm hW) ?_
  refine b_putR (ci := 2) (j := 4) rfl (Nat.le_of_ble_eq_true rfl) (Nat.le_of_ble_eq_true rfl) (by decide) (by decide) rfl rfl hin rfl fl_X2_26 eX2_init_34 ?_
  exact b_vret (d := 0) rfl (Nat.le_of_ble_eq_true rfl) (Nat.le_of_ble_eq_true rfl) eX2_init_37
theorem i_parts3 (Lr : RL9) (st : St) (hz93 : ∀ j, st.1 93 j = 0) : MB l D cy ad bs 1 1 7 YX6_init NB [.ref 93] 41 Lr st none 42 ((93, 0) :: Lr) st := by
  refine MB.ofG [some (.ref 93)] (by decide) (Nat.le_of_ble_eq_true rfl) rfl ?_
  intro p e s m args below meth c hin hB
  refine n_ald0 eX6_init_0 ?_
  refine b_init wob_X6 ⟨Nat.le_of_ble_eq_true rfl, Nat.le_of_ble_eq_true rfl⟩ (Nat.le_of_ble_eq_true rfl) eX6_init_1 ?_
  refine n_ald0 eX6_init_4 ?_
  refine n_bipush (v := 7) (by decide) eX6_init_5 ?_
  refine b_newa (k := 94) (N := 7) (Or.inr (Or.inl rfl)) rfl rfl rfl wa_13 ⟨by decide, by decide⟩ (Nat.le_of_ble_eq_true rfl) ⟨Nat.le_of_ble_eq_true rfl, Nat.le_of_ble_eq_true rfl⟩ eX6_init_7 ?_
  refine b_putR (ci := 5) (j := 0) rfl (Nat.le_of_ble_eq_true rfl) (Nat.le_of_ble_eq_true rfl) (by decide) (by decide) rfl rfl hin rfl fl_X6_9 eX6_init_9 ?_
  refine n_ald0 eX6_init_12 ?_
  refine n_iconst (v := 0) (by decide) eX6_init_13 ?_
  refine b_put0 (ci := 5) (j := 1) rfl (Nat.le_of_ble_eq_true rfl) (Nat.le_of_ble_eq_true rfl) (by decide) (by decide) (Or.inl rfl) (hz93 1) hin rfl fl_X6_13 eX6_init_14 ?_
  refine n_ald0 eX6_init_17 ?_
  refine n_iconst (v := 0) (by decide) eX6_init_18 ?_
  refine b_put0 (ci := 5) (j := 2) rfl (Nat.le_of_ble_eq_true rfl) (Nat.le_of_ble_eq_true rfl) (by decide) (by decide) (Or.inl rfl) (hz93 2) hin rfl fl_X6_17 eX6_init_19 ?_
  exact b_vret (d := 0) rfl (Nat.le_of_ble_eq_true rfl) (Nat.le_of_ble_eq_true rfl) eX6_init_22
theorem i_key3 (Lr : RL9) (st : St) (hz92 : ∀ j, st.1 92 j = 0) (hz93 : ∀ j, st.1 93 j = 0) : MB l D cy ad bs 2 2 10 YX2_init NB [.ref 92] 40 Lr st none 42 ((92, 4) :: (93, 0) :: Lr) (sI (sI st 92 0 101) 92 1 10) := by
  refine MB.ofG [some (.ref 92)] (by decide) (Nat.le_of_ble_eq_true rfl) rfl ?_
  intro p e s m args below meth c hin hB
  refine n_ald0 eX2_init_0 ?_
  refine b_init wob_X2 ⟨Nat.le_of_ble_eq_true rfl, Nat.le_of_ble_eq_true rfl⟩ (Nat.le_of_ble_eq_true rfl) eX2_init_1 ?_
  refine n_ald0 eX2_init_4 ?_
  refine n_bipush (v := 101) (by decide) eX2_init_5 ?_
  refine b_putI (ci := 2) (j := 0) rfl (Nat.le_of_ble_eq_true rfl) (Nat.le_of_ble_eq_true rfl) (by decide) (by decide) (Or.inl rfl) hin rfl fl_X2_7 eX2_init_7 ?_
  refine n_ald0 eX2_init_10 ?_
  refine n_bipush (v := 10) (by decide) eX2_init_11 ?_
  refine b_putI (ci := 2) (j := 1) rfl (Nat.le_of_ble_eq_true rfl) (Nat.le_of_ble_eq_true rfl) (by decide) (by decide) (Or.inl rfl) hin rfl fl_X2_13 eX2_init_13 ?_
  refine n_ald0 eX2_init_16 ?_
  refine n_iconst (v := 0) (by decide) eX2_init_17 ?_
  refine b_put0 (ci := 2) (j := 2) rfl (Nat.le_of_ble_eq_true rfl) (Nat.le_of_ble_eq_true rfl) (by decide) (by decide) (Or.inl rfl) (hz92 2) hin rfl fl_X2_16 eX2_init_18 ?_
  refine n_ald0 eX2_init_21 ?_
  refine n_iconst (v := 0) (by decide) eX2_init_22 ?_
  refine b_put0 (ci := 2) (j := 3) rfl (Nat.le_of_ble_eq_true rfl) (Nat.le_of_ble_eq_true rfl) (by decide) (by decide) (Or.inr rfl) (hz92 3) hin rfl fl_X2_19 eX2_init_23 ?_
  refine n_ald0 eX2_init_26 ?_
  refine b_new (k := 93) (ci := 5) rfl (by decide) rfl wn_X2_23 ⟨Nat.le_of_ble_eq_true rfl, Nat.le_of_ble_eq_true rfl⟩ eX2_init_27 ?_
  refine n_dup rfl eX2_init_30 ?_
  refine b_callN (B := NB) (i_parts3 _ _ (fun j => hz93 j)) hB.2.1 ci_X2_25 ⟨rfl, rfl⟩ eX2_init_31 ⟨Nat.le_of_ble_eq_true rfl, Nat.le_of_ble_eq_true rfl⟩ ⟨Nat.le_of_ble_eq_true rfl, Nat.le_of_ble_eq_true rfl⟩ rfl (Nat.le_of_ble_eq_true rfl) (fun _ _ _ _ h => h.call) (fun _ _ _ _ _ hW => hB.warm hW) ?_
  refine b_putR (ci := 2) (j := 4) rfl (Nat.le_of_ble_eq_true rfl) (Nat.le_of_ble_eq_true rfl) (by decide) (by decide) rfl rfl hin rfl fl_X2_26 eX2_init_34 ?_
  exact b_vret (d := 0) rfl (Nat.le_of_ble_eq_true rfl) (Nat.le_of_ble_eq_true rfl) eX2_init_37
theorem i_prog0 (Lr : RL9) (st : St) (hz95 : ∀ j, st.1 95 j = 0) : MB l D cy ad bs 1 4 124 YX7_init NB [.ref 95] 43 Lr st none 47 ((95, 3) :: (95, 2) :: (95, 1) :: (95, 0) :: Lr) st := by
  refine MB.ofG [some (.ref 95)] (by decide) (Nat.le_of_ble_eq_true rfl) rfl ?_
  intro p e s m args below meth c hin hB
  refine n_ald0 eX7_init_0 ?_
  refine b_init wob_X7 ⟨Nat.le_of_ble_eq_true rfl, Nat.le_of_ble_eq_true rfl⟩ (Nat.le_of_ble_eq_true rfl) eX7_init_1 ?_
  refine n_ald0 eX7_init_4 ?_
  refine n_bipush (v := 40) (by decide) eX7_init_5 ?_
  refine b_newa (k := 96) (N := 40) (Or.inr (Or.inl rfl)) rfl rfl rfl wa_13 ⟨by decide, by decide⟩ (Nat.le_of_ble_eq_true rfl) ⟨Nat.le_of_ble_eq_true rfl, Nat.le_of_ble_eq_true rfl⟩ eX7_init_7 ?_
  refine b_putR (ci := 6) (j := 0) rfl (Nat.le_of_ble_eq_true rfl) (Nat.le_of_ble_eq_true rfl) (by decide) (by decide) rfl rfl hin rfl fl_X7_11 eX7_init_9 ?_
  refine n_ald0 eX7_init_12 ?_
  refine n_bipush (v := 40) (by decide) eX7_init_13 ?_
  refine b_newa (k := 97) (N := 40) (Or.inr (Or.inl rfl)) rfl rfl rfl wa_13 ⟨by decide, by decide⟩ (Nat.le_of_ble_eq_true rfl) ⟨Nat.le_of_ble_eq_true rfl, Nat.le_of_ble_eq_true rfl⟩ eX7_init_15 ?_
  refine b_putR (ci := 6) (j := 1) rfl (Nat.le_of_ble_eq_true rfl) (Nat.le_of_ble_eq_true rfl) (by decide) (by decide) rfl rfl hin rfl fl_X7_15 eX7_init_17 ?_
  refine n_ald0 eX7_init_20 ?_
  refine n_bipush (v := 40) (by decide) eX7_init_21 ?_
  refine b_newa (k := 98) (N := 40) (Or.inr (Or.inl rfl)) rfl rfl rfl wa_13 ⟨by decide, by decide⟩ (Nat.le_of_ble_eq_true rfl) ⟨Nat.le_of_ble_eq_true rfl, Nat.le_of_ble_eq_true rfl⟩ eX7_init_23 ?_
  refine b_putR (ci := 6) (j := 2) rfl (Nat.le_of_ble_eq_true rfl) (Nat.le_of_ble_eq_true rfl) (by decide) (by decide) rfl rfl hin rfl fl_X7_18 eX7_init_25 ?_
  refine n_ald0 eX7_init_28 ?_
  refine n_iconst (v := 4) (by decide) eX7_init_29 ?_
  refine b_newa (k := 99) (N := 4) (Or.inr (Or.inl rfl)) rfl rfl rfl wa_13 ⟨by decide, by decide⟩ (Nat.le_of_ble_eq_true rfl) ⟨Nat.le_of_ble_eq_true rfl, Nat.le_of_ble_eq_true rfl⟩ eX7_init_30 ?_
  refine b_putR (ci := 6) (j := 3) rfl (Nat.le_of_ble_eq_true rfl) (Nat.le_of_ble_eq_true rfl) (by decide) (by decide) rfl rfl hin rfl fl_X7_21 eX7_init_32 ?_
  refine n_ald0 eX7_init_35 ?_
  refine n_iconst (v := 0) (by decide) eX7_init_36 ?_
  refine b_put0 (ci := 6) (j := 4) rfl (Nat.le_of_ble_eq_true rfl) (Nat.le_of_ble_eq_true rfl) (by decide) (by decide) (Or.inl rfl) (hz95 4) hin rfl fl_X7_24 eX7_init_37 ?_
  refine n_ald0 eX7_init_40 ?_
  refine n_iconst (v := 0) (by decide) eX7_init_41 ?_
  refine b_put0 (ci := 6) (j := 5) rfl (Nat.le_of_ble_eq_true rfl) (Nat.le_of_ble_eq_true rfl) (by decide) (by decide) (Or.inl rfl) (hz95 5) hin rfl fl_X7_28 eX7_init_42 ?_
  refine n_ald0 eX7_init_45 ?_
  refine n_iconst (v := 0) (by decide) eX7_init_46 ?_
  refine b_put0 (ci := 6) (j := 6) rfl (Nat.le_of_ble_eq_true rfl) (Nat.le_of_ble_eq_true rfl) (by decide) (by decide) (Or.inl rfl) (hz95 6) hin rfl fl_X7_31 eX7_init_47 ?_
  exact b_vret (d := 0) rfl (Nat.le_of_ble_eq_true rfl) (Nat.le_of_ble_eq_true rfl) eX7_init_50
theorem i_prog1 (Lr : RL9) (st : St) (hz100 : ∀ j, st.1 100 j = 0) : MB l D cy ad bs 1 4 124 YX7_init NB [.ref 100] 48 Lr st none 52 ((100, 3) :: (100, 2) :: (100, 1) :: (100, 0) :: Lr) st := by
  refine MB.ofG [some (.ref 100)] (by decide) (Nat.le_of_ble_eq_true rfl) rfl ?_
  intro p e s m args below meth c hin hB
  refine n_ald0 eX7_init_0 ?_
  refine b_init wob_X7 ⟨Nat.le_of_ble_eq_true rfl, Nat.le_of_ble_eq_true rfl⟩ (Nat.le_of_ble_eq_true rfl) eX7_init_1 ?_
  refine n_ald0 eX7_init_4 ?_
  refine n_bipush (v := 40) (by decide) eX7_init_5 ?_
  refine b_newa (k := 101) (N := 40) (Or.inr (Or.inl rfl)) rfl rfl rfl wa_13 ⟨by decide, by decide⟩ (Nat.le_of_ble_eq_true rfl) ⟨Nat.le_of_ble_eq_true rfl, Nat.le_of_ble_eq_true rfl⟩ eX7_init_7 ?_
  refine b_putR (ci := 6) (j := 0) rfl (Nat.le_of_ble_eq_true rfl) (Nat.le_of_ble_eq_true rfl) (by decide) (by decide) rfl rfl hin rfl fl_X7_11 eX7_init_9 ?_
  refine n_ald0 eX7_init_12 ?_
  refine n_bipush (v := 40) (by decide) eX7_init_13 ?_
  refine b_newa (k := 102) (N := 40) (Or.inr (Or.inl rfl)) rfl rfl rfl wa_13 ⟨by decide, by decide⟩ (Nat.le_of_ble_eq_true rfl) ⟨Nat.le_of_ble_eq_true rfl, Nat.le_of_ble_eq_true rfl⟩ eX7_init_15 ?_
  refine b_putR (ci := 6) (j := 1) rfl (Nat.le_of_ble_eq_true rfl) (Nat.le_of_ble_eq_true rfl) (by decide) (by decide) rfl rfl hin rfl fl_X7_15 eX7_init_17 ?_
  refine n_ald0 eX7_init_20 ?_
  refine n_bipush (v := 40) (by decide) eX7_init_21 ?_
  refine b_newa (k := 103) (N := 40) (Or.inr (Or.inl rfl)) rfl rfl rfl wa_13 ⟨by decide, by decide⟩ (Nat.le_of_ble_eq_true rfl) ⟨Nat.le_of_ble_eq_true rfl, Nat.le_of_ble_eq_true rfl⟩ eX7_init_23 ?_
  refine b_putR (ci := 6) (j := 2) rfl (Nat.le_of_ble_eq_true rfl) (Nat.le_of_ble_eq_true rfl) (by decide) (by decide) rfl rfl hin rfl fl_X7_18 eX7_init_25 ?_
  refine n_ald0 eX7_init_28 ?_
  refine n_iconst (v := 4) (by decide) eX7_init_29 ?_
  refine b_newa (k := 104) (N := 4) (Or.inr (Or.inl rfl)) rfl rfl rfl wa_13 ⟨by decide, by decide⟩ (Nat.le_of_ble_eq_true rfl) ⟨Nat.le_of_ble_eq_true rfl, Nat.le_of_ble_eq_true rfl⟩ eX7_init_30 ?_
  refine b_putR (ci := 6) (j := 3) rfl (Nat.le_of_ble_eq_true rfl) (Nat.le_of_ble_eq_true rfl) (by decide) (by decide) rfl rfl hin rfl fl_X7_21 eX7_init_32 ?_
  refine n_ald0 eX7_init_35 ?_
  refine n_iconst (v := 0) (by decide) eX7_init_36 ?_
  refine b_put0 (ci := 6) (j := 4) rfl (Nat.le_of_ble_eq_true rfl) (Nat.le_of_ble_eq_true rfl) (by decide) (by decide) (Or.inl rfl) (hz100 4) hin rfl fl_X7_24 eX7_init_37 ?_
  refine n_ald0 eX7_init_40 ?_
  refine n_iconst (v := 0) (by decide) eX7_init_41 ?_
  refine b_put0 (ci := 6) (j := 5) rfl (Nat.le_of_ble_eq_true rfl) (Nat.le_of_ble_eq_true rfl) (by decide) (by decide) (Or.inl rfl) (hz100 5) hin rfl fl_X7_28 eX7_init_42 ?_
  refine n_ald0 eX7_init_45 ?_
  refine n_iconst (v := 0) (by decide) eX7_init_46 ?_
  refine b_put0 (ci := 6) (j := 6) rfl (Nat.le_of_ble_eq_true rfl) (Nat.le_of_ble_eq_true rfl) (by decide) (by decide) (Or.inl rfl) (hz100 6) hin rfl fl_X7_31 eX7_init_47 ?_
  exact b_vret (d := 0) rfl (Nat.le_of_ble_eq_true rfl) (Nat.le_of_ble_eq_true rfl) eX7_init_50
theorem i_prog2 (Lr : RL9) (st : St) (hz105 : ∀ j, st.1 105 j = 0) : MB l D cy ad bs 1 4 124 YX7_init NB [.ref 105] 53 Lr st none 57 ((105, 3) :: (105, 2) :: (105, 1) :: (105, 0) :: Lr) st := by
  refine MB.ofG [some (.ref 105)] (by decide) (Nat.le_of_ble_eq_true rfl) rfl ?_
  intro p e s m args below meth c hin hB
  refine n_ald0 eX7_init_0 ?_
  refine b_init wob_X7 ⟨Nat.le_of_ble_eq_true rfl, Nat.le_of_ble_eq_true rfl⟩ (Nat.le_of_ble_eq_true rfl) eX7_init_1 ?_
  refine n_ald0 eX7_init_4 ?_
  refine n_bipush (v := 40) (by decide) eX7_init_5 ?_
  refine b_newa (k := 106) (N := 40) (Or.inr (Or.inl rfl)) rfl rfl rfl wa_13 ⟨by decide, by decide⟩ (Nat.le_of_ble_eq_true rfl) ⟨Nat.le_of_ble_eq_true rfl, Nat.le_of_ble_eq_true rfl⟩ eX7_init_7 ?_
  refine b_putR (ci := 6) (j := 0) rfl (Nat.le_of_ble_eq_true rfl) (Nat.le_of_ble_eq_true rfl) (by decide) (by decide) rfl rfl hin rfl fl_X7_11 eX7_init_9 ?_
  refine n_ald0 eX7_init_12 ?_
  refine n_bipush (v := 40) (by decide) eX7_init_13 ?_
  refine b_newa (k := 107) (N := 40) (Or.inr (Or.inl rfl)) rfl rfl rfl wa_13 ⟨by decide, by decide⟩ (Nat.le_of_ble_eq_true rfl) ⟨Nat.le_of_ble_eq_true rfl, Nat.le_of_ble_eq_true rfl⟩ eX7_init_15 ?_
  refine b_putR (ci := 6) (j := 1) rfl (Nat.le_of_ble_eq_true rfl) (Nat.le_of_ble_eq_true rfl) (by decide) (by decide) rfl rfl hin rfl fl_X7_15 eX7_init_17 ?_
  refine n_ald0 eX7_init_20 ?_
  refine n_bipush (v := 40) (by decide) eX7_init_21 ?_
  refine b_newa (k := 108) (N := 40) (Or.inr (Or.inl rfl)) rfl rfl rfl wa_13 ⟨by decide, by decide⟩ (Nat.le_of_ble_eq_true rfl) ⟨Nat.le_of_ble_eq_true rfl, Nat.le_of_ble_eq_true rfl⟩ eX7_init_23 ?_
  refine b_putR (ci := 6) (j := 2) rfl (Nat.le_of_ble_eq_true rfl) (Nat.le_of_ble_eq_true rfl) (by decide) (by decide) rfl rfl hin rfl fl_X7_18 eX7_init_25 ?_
  refine n_ald0 eX7_init_28 ?_
  refine n_iconst (v := 4) (by decide) eX7_init_29 ?_
  refine b_newa (k := 109) (N := 4) (Or.inr (Or.inl rfl)) rfl rfl rfl wa_13 ⟨by decide, by decide⟩ (Nat.le_of_ble_eq_true rfl) ⟨Nat.le_of_ble_eq_true rfl, Nat.le_of_ble_eq_true rfl⟩ eX7_init_30 ?_
  refine b_putR (ci := 6) (j := 3) rfl (Nat.le_of_ble_eq_true rfl) (Nat.le_of_ble_eq_true rfl) (by decide) (by decide) rfl rfl hin rfl fl_X7_21 eX7_init_32 ?_
  refine n_ald0 eX7_init_35 ?_
  refine n_iconst (v := 0) (by decide) eX7_init_36 ?_
  refine b_put0 (ci := 6) (j := 4) rfl (Nat.le_of_ble_eq_true rfl) (Nat.le_of_ble_eq_true rfl) (by decide) (by decide) (Or.inl rfl) (hz105 4) hin rfl fl_X7_24 eX7_init_37 ?_
  refine n_ald0 eX7_init_40 ?_
  refine n_iconst (v := 0) (by decide) eX7_init_41 ?_
  refine b_put0 (ci := 6) (j := 5) rfl (Nat.le_of_ble_eq_true rfl) (Nat.le_of_ble_eq_true rfl) (by decide) (by decide) (Or.inl rfl) (hz105 5) hin rfl fl_X7_28 eX7_init_42 ?_
  refine n_ald0 eX7_init_45 ?_
  refine n_iconst (v := 0) (by decide) eX7_init_46 ?_
  refine b_put0 (ci := 6) (j := 6) rfl (Nat.le_of_ble_eq_true rfl) (Nat.le_of_ble_eq_true rfl) (by decide) (by decide) (Or.inl rfl) (hz105 6) hin rfl fl_X7_31 eX7_init_47 ?_
  exact b_vret (d := 0) rfl (Nat.le_of_ble_eq_true rfl) (Nat.le_of_ble_eq_true rfl) eX7_init_50
theorem i_prog3 (Lr : RL9) (st : St) (hz110 : ∀ j, st.1 110 j = 0) : MB l D cy ad bs 1 4 124 YX7_init NB [.ref 110] 58 Lr st none 62 ((110, 3) :: (110, 2) :: (110, 1) :: (110, 0) :: Lr) st := by
  refine MB.ofG [some (.ref 110)] (by decide) (Nat.le_of_ble_eq_true rfl) rfl ?_
  intro p e s m args below meth c hin hB
  refine n_ald0 eX7_init_0 ?_
  refine b_init wob_X7 ⟨Nat.le_of_ble_eq_true rfl, Nat.le_of_ble_eq_true rfl⟩ (Nat.le_of_ble_eq_true rfl) eX7_init_1 ?_
  refine n_ald0 eX7_init_4 ?_
  refine n_bipush (v := 40) (by decide) eX7_init_5 ?_
  refine b_newa (k := 111) (N := 40) (Or.inr (Or.inl rfl)) rfl rfl rfl wa_13 ⟨by decide, by decide⟩ (Nat.le_of_ble_eq_true rfl) ⟨Nat.le_of_ble_eq_true rfl, Nat.le_of_ble_eq_true rfl⟩ eX7_init_7 ?_
  refine b_putR (ci := 6) (j := 0) rfl (Nat.le_of_ble_eq_true rfl) (Nat.le_of_ble_eq_true rfl) (by decide) (by decide) rfl rfl hin rfl fl_X7_11 eX7_init_9 ?_
  refine n_ald0 eX7_init_12 ?_
  refine n_bipush (v := 40) (by decide) eX7_init_13 ?_
  refine b_newa (k := 112) (N := 40) (Or.inr (Or.inl rfl)) rfl rfl rfl wa_13 ⟨by decide, by decide⟩ (Nat.le_of_ble_eq_true rfl) ⟨Nat.le_of_ble_eq_true rfl, Nat.le_of_ble_eq_true rfl⟩ eX7_init_15 ?_
  refine b_putR (ci := 6) (j := 1) rfl (Nat.le_of_ble_eq_true rfl) (Nat.le_of_ble_eq_true rfl) (by decide) (by decide) rfl rfl hin rfl fl_X7_15 eX7_init_17 ?_
  refine n_ald0 eX7_init_20 ?_
  refine n_bipush (v := 40) (by decide) eX7_init_21 ?_
  refine b_newa (k := 113) (N := 40) (Or.inr (Or.inl rfl)) rfl rfl rfl wa_13 ⟨by decide, by decide⟩ (Nat.le_of_ble_eq_true rfl) ⟨Nat.le_of_ble_eq_true rfl, Nat.le_of_ble_eq_true rfl⟩ eX7_init_23 ?_
  refine b_putR (ci := 6) (j := 2) rfl (Nat.le_of_ble_eq_true rfl) (Nat.le_of_ble_eq_true rfl) (by decide) (by decide) rfl rfl hin rfl fl_X7_18 eX7_init_25 ?_
  refine n_ald0 eX7_init_28 ?_
  refine n_iconst (v := 4) (by decide) eX7_init_29 ?_
  refine b_newa (k := 114) (N := 4) (Or.inr (Or.inl rfl)) rfl rfl rfl wa_13 ⟨by decide, by decide⟩ (Nat.le_of_ble_eq_true rfl) ⟨Nat.le_of_ble_eq_true rfl, Nat.le_of_ble_eq_true rfl⟩ eX7_init_30 ?_
  refine b_putR (ci := 6) (j := 3) rfl (Nat.le_of_ble_eq_true rfl) (Nat.le_of_ble_eq_true rfl) (by decide) (by decide) rfl rfl hin rfl fl_X7_21 eX7_init_32 ?_
  refine n_ald0 eX7_init_35 ?_
  refine n_iconst (v := 0) (by decide) eX7_init_36 ?_
  refine b_put0 (ci := 6) (j := 4) rfl (Nat.le_of_ble_eq_true rfl) (Nat.le_of_ble_eq_true rfl) (by decide) (by decide) (Or.inl rfl) (hz110 4) hin rfl fl_X7_24 eX7_init_37 ?_
  refine n_ald0 eX7_init_40 ?_
  refine n_iconst (v := 0) (by decide) eX7_init_41 ?_
  refine b_put0 (ci := 6) (j := 5) rfl (Nat.le_of_ble_eq_true rfl) (Nat.le_of_ble_eq_true rfl) (by decide) (by decide) (Or.inl rfl) (hz110 5) hin rfl fl_X7_28 eX7_init_42 ?_
  refine n_ald0 eX7_init_45 ?_
  refine n_iconst (v := 0) (by decide) eX7_init_46 ?_
  refine b_put0 (ci := 6) (j := 6) rfl (Nat.le_of_ble_eq_true rfl) (Nat.le_of_ble_eq_true rfl) (by decide) (by decide) (Or.inl rfl) (hz110 6) hin rfl fl_X7_31 eX7_init_47 ?_
  exact b_vret (d := 0) rfl (Nat.le_of_ble_eq_true rfl) (Nat.le_of_ble_eq_true rfl) eX7_init_50
theorem i_tape (Lr : RL9) (st : St) (hz1 : ∀ j, st.1 1 j = 0) : MB l D cy ad bs 1 1 2000 YX9_init NB [.ref 1] 2 Lr st none 3 ((1, 0) :: Lr) st := by
  refine MB.ofG [some (.ref 1)] (by decide) (Nat.le_of_ble_eq_true rfl) rfl ?_
  intro p e s m args below meth c hin hB
  refine n_ald0 eX9_init_0 ?_
  refine b_init wob_X9 ⟨Nat.le_of_ble_eq_true rfl, Nat.le_of_ble_eq_true rfl⟩ (Nat.le_of_ble_eq_true rfl) eX9_init_1 ?_
  refine n_ald0 eX9_init_4 ?_
  refine n_sipush (v := 2000) (by decide) eX9_init_5 ?_
  refine b_newa (k := 2) (N := 2000) (Or.inl rfl) rfl rfl rfl wa_12 ⟨by decide, by decide⟩ (Nat.le_of_ble_eq_true rfl) ⟨Nat.le_of_ble_eq_true rfl, Nat.le_of_ble_eq_true rfl⟩ eX9_init_8 ?_
  refine b_putR (ci := 8) (j := 0) rfl (Nat.le_of_ble_eq_true rfl) (Nat.le_of_ble_eq_true rfl) (by decide) (by decide) rfl rfl hin rfl fl_X9_9 eX9_init_10 ?_
  refine n_ald0 eX9_init_13 ?_
  refine n_iconst (v := 0) (by decide) eX9_init_14 ?_
  refine b_put0 (ci := 8) (j := 1) rfl (Nat.le_of_ble_eq_true rfl) (Nat.le_of_ble_eq_true rfl) (by decide) (by decide) (Or.inl rfl) (hz1 1) hin rfl fl_X9_13 eX9_init_15 ?_
  exact b_vret (d := 0) rfl (Nat.le_of_ble_eq_true rfl) (Nat.le_of_ble_eq_true rfl) eX9_init_18
theorem i_tokens (Lr : RL9) (st : St) (hz4 : ∀ j, st.1 4 j = 0) : MB l D cy ad bs 1 3 906 YX10_init NB [.ref 4] 5 Lr st none 8 ((4, 2) :: (4, 1) :: (4, 0) :: Lr) st := by
  refine MB.ofG [some (.ref 4)] (by decide) (Nat.le_of_ble_eq_true rfl) rfl ?_
  intro p e s m args below meth c hin hB
  refine n_ald0 eX10_init_0 ?_
  refine b_init wob_X10 ⟨Nat.le_of_ble_eq_true rfl, Nat.le_of_ble_eq_true rfl⟩ (Nat.le_of_ble_eq_true rfl) eX10_init_1 ?_
  refine n_ald0 eX10_init_4 ?_
  refine n_sipush (v := 302) (by decide) eX10_init_5 ?_
  refine b_newa (k := 5) (N := 302) (Or.inr (Or.inl rfl)) rfl rfl rfl wa_13 ⟨by decide, by decide⟩ (Nat.le_of_ble_eq_true rfl) ⟨Nat.le_of_ble_eq_true rfl, Nat.le_of_ble_eq_true rfl⟩ eX10_init_8 ?_
  refine b_putR (ci := 9) (j := 0) rfl (Nat.le_of_ble_eq_true rfl) (Nat.le_of_ble_eq_true rfl) (by decide) (by decide) rfl rfl hin rfl fl_X10_9 eX10_init_10 ?_
  refine n_ald0 eX10_init_13 ?_
  refine n_sipush (v := 302) (by decide) eX10_init_14 ?_
  refine b_newa (k := 6) (N := 302) (Or.inr (Or.inl rfl)) rfl rfl rfl wa_13 ⟨by decide, by decide⟩ (Nat.le_of_ble_eq_true rfl) ⟨Nat.le_of_ble_eq_true rfl, Nat.le_of_ble_eq_true rfl⟩ eX10_init_17 ?_
  refine b_putR (ci := 9) (j := 1) rfl (Nat.le_of_ble_eq_true rfl) (Nat.le_of_ble_eq_true rfl) (by decide) (by decide) rfl rfl hin rfl fl_X10_13 eX10_init_19 ?_
  refine n_ald0 eX10_init_22 ?_
  refine n_sipush (v := 302) (by decide) eX10_init_23 ?_
  refine b_newa (k := 7) (N := 302) (Or.inr (Or.inr (Or.inl rfl))) rfl rfl rfl wa_14 ⟨by decide, by decide⟩ (Nat.le_of_ble_eq_true rfl) ⟨Nat.le_of_ble_eq_true rfl, Nat.le_of_ble_eq_true rfl⟩ eX10_init_26 ?_
  refine b_putR (ci := 9) (j := 2) rfl (Nat.le_of_ble_eq_true rfl) (Nat.le_of_ble_eq_true rfl) (by decide) (by decide) rfl rfl hin rfl fl_X10_16 eX10_init_28 ?_
  refine n_ald0 eX10_init_31 ?_
  refine n_iconst (v := 0) (by decide) eX10_init_32 ?_
  refine b_put0 (ci := 9) (j := 3) rfl (Nat.le_of_ble_eq_true rfl) (Nat.le_of_ble_eq_true rfl) (by decide) (by decide) (Or.inl rfl) (hz4 3) hin rfl fl_X10_20 eX10_init_33 ?_
  exact b_vret (d := 0) rfl (Nat.le_of_ble_eq_true rfl) (Nat.le_of_ble_eq_true rfl) eX10_init_36
theorem i_grammar (Lr : RL9) (st : St) (hz3 : ∀ j, st.1 3 j = 0) (hz4 : ∀ j, st.1 4 j = 0) : MB l D cy ad bs 2 6 1510 YX1_init NB [.ref 3] 4 Lr st none 10 ((3, 2) :: (3, 1) :: (3, 0) :: (4, 2) :: (4, 1) :: (4, 0) :: Lr) (sI st 3 4 (-1)) := by
  refine MB.ofG [some (.ref 3)] (by decide) (Nat.le_of_ble_eq_true rfl) rfl ?_
  intro p e s m args below meth c hin hB
  refine n_ald0 eX1_init_0 ?_
  refine b_init wob_X1 ⟨Nat.le_of_ble_eq_true rfl, Nat.le_of_ble_eq_true rfl⟩ (Nat.le_of_ble_eq_true rfl) eX1_init_1 ?_
  refine n_ald0 eX1_init_4 ?_
  refine b_new (k := 4) (ci := 9) rfl (by decide) rfl wn_X1_9 ⟨Nat.le_of_ble_eq_true rfl, Nat.le_of_ble_eq_true rfl⟩ eX1_init_5 ?_
  refine n_dup rfl eX1_init_8 ?_
  refine b_callN (B := NB) (i_tokens _ _ (fun j => hz4 j)) hB.1 ci_X1_11 ⟨rfl, rfl⟩ eX1_init_9 ⟨Nat.le_of_ble_eq_true rfl, Nat.le_of_ble_eq_true rfl⟩ ⟨Nat.le_of_ble_eq_true rfl, Nat.le_of_ble_eq_true rfl⟩ rfl (Nat.le_of_ble_eq_true rfl) (fun _ _ _ _ h => h.call) (fun _ _ _ _ _ hW => hB.warm hW) ?_
  refine b_putR (ci := 1) (j := 0) rfl (Nat.le_of_ble_eq_true rfl) (Nat.le_of_ble_eq_true rfl) (by decide) (by decide) rfl rfl hin rfl fl_X1_12 eX1_init_12 ?_
  refine n_ald0 eX1_init_15 ?_
  refine n_sipush (v := 300) (by decide) eX1_init_16 ?_
  refine b_newa (k := 8) (N := 300) (Or.inr (Or.inl rfl)) rfl rfl rfl wa_13 ⟨by decide, by decide⟩ (Nat.le_of_ble_eq_true rfl) ⟨Nat.le_of_ble_eq_true rfl, Nat.le_of_ble_eq_true rfl⟩ eX1_init_19 ?_
  refine b_putR (ci := 1) (j := 1) rfl (Nat.le_of_ble_eq_true rfl) (Nat.le_of_ble_eq_true rfl) (by decide) (by decide) rfl rfl hin rfl fl_X1_18 eX1_init_21 ?_
  refine n_ald0 eX1_init_24 ?_
  refine n_sipush (v := 300) (by decide) eX1_init_25 ?_
  refine b_newa (k := 9) (N := 300) (Or.inr (Or.inl rfl)) rfl rfl rfl wa_13 ⟨by decide, by decide⟩ (Nat.le_of_ble_eq_true rfl) ⟨Nat.le_of_ble_eq_true rfl, Nat.le_of_ble_eq_true rfl⟩ eX1_init_28 ?_
  refine b_putR (ci := 1) (j := 2) rfl (Nat.le_of_ble_eq_true rfl) (Nat.le_of_ble_eq_true rfl) (by decide) (by decide) rfl rfl hin rfl fl_X1_22 eX1_init_30 ?_
  refine n_ald0 eX1_init_33 ?_
  refine n_iconst (v := 0) (by decide) eX1_init_34 ?_
  refine b_put0 (ci := 1) (j := 3) rfl (Nat.le_of_ble_eq_true rfl) (Nat.le_of_ble_eq_true rfl) (by decide) (by decide) (Or.inl rfl) (hz3 3) hin rfl fl_X1_25 eX1_init_35 ?_
  refine n_ald0 eX1_init_38 ?_
  refine n_iconst (v := (-1)) (by decide) eX1_init_39 ?_
  refine b_putI (ci := 1) (j := 4) rfl (Nat.le_of_ble_eq_true rfl) (Nat.le_of_ble_eq_true rfl) (by decide) (by decide) (Or.inl rfl) hin rfl fl_X1_29 eX1_init_40 ?_
  refine n_ald0 eX1_init_43 ?_
  refine n_iconst (v := 0) (by decide) eX1_init_44 ?_
  refine b_put0 (ci := 1) (j := 5) rfl (Nat.le_of_ble_eq_true rfl) (Nat.le_of_ble_eq_true rfl) (by decide) (by decide) (Or.inl rfl) (hz3 5) hin rfl fl_X1_32 eX1_init_45 ?_
  refine n_ald0 eX1_init_48 ?_
  refine n_iconst (v := 0) (by decide) eX1_init_49 ?_
  refine b_put0 (ci := 1) (j := 6) rfl (Nat.le_of_ble_eq_true rfl) (Nat.le_of_ble_eq_true rfl) (by decide) (by decide) (Or.inl rfl) (hz3 6) hin rfl fl_X1_35 eX1_init_50 ?_
  refine n_ald0 eX1_init_53 ?_
  refine n_iconst (v := 0) (by decide) eX1_init_54 ?_
  refine b_put0 (ci := 1) (j := 7) rfl (Nat.le_of_ble_eq_true rfl) (Nat.le_of_ble_eq_true rfl) (by decide) (by decide) (Or.inl rfl) (hz3 7) hin rfl fl_X1_38 eX1_init_55 ?_
  refine n_ald0 eX1_init_58 ?_
  refine n_iconst (v := 0) (by decide) eX1_init_59 ?_
  refine b_put0 (ci := 1) (j := 8) rfl (Nat.le_of_ble_eq_true rfl) (Nat.le_of_ble_eq_true rfl) (by decide) (by decide) (Or.inl rfl) (hz3 8) hin rfl fl_X1_41 eX1_init_60 ?_
  refine n_ald0 eX1_init_63 ?_
  refine n_iconst (v := 0) (by decide) eX1_init_64 ?_
  refine b_put0 (ci := 1) (j := 9) rfl (Nat.le_of_ble_eq_true rfl) (Nat.le_of_ble_eq_true rfl) (by decide) (by decide) (Or.inl rfl) (hz3 9) hin rfl fl_X1_44 eX1_init_65 ?_
  exact b_vret (d := 0) rfl (Nat.le_of_ble_eq_true rfl) (Nat.le_of_ble_eq_true rfl) eX1_init_68
theorem i_rows (Lr : RL9) (st : St) (hz17 : ∀ j, st.1 17 j = 0) : MB l D cy ad bs 1 4 240 YX8_init NB [.ref 17] 12 Lr st none 16 ((17, 3) :: (17, 2) :: (17, 1) :: (17, 0) :: Lr) st := by
  refine MB.ofG [some (.ref 17)] (by decide) (Nat.le_of_ble_eq_true rfl) rfl ?_
  intro p e s m args below meth c hin hB
  refine n_ald0 eX8_init_0 ?_
  refine b_init wob_X8 ⟨Nat.le_of_ble_eq_true rfl, Nat.le_of_ble_eq_true rfl⟩ (Nat.le_of_ble_eq_true rfl) eX8_init_1 ?_
  refine n_ald0 eX8_init_4 ?_
  refine n_bipush (v := 60) (by decide) eX8_init_5 ?_
  refine b_newa (k := 18) (N := 60) (Or.inr (Or.inl rfl)) rfl rfl rfl wa_13 ⟨by decide, by decide⟩ (Nat.le_of_ble_eq_true rfl) ⟨Nat.le_of_ble_eq_true rfl, Nat.le_of_ble_eq_true rfl⟩ eX8_init_7 ?_
  refine b_putR (ci := 7) (j := 0) rfl (Nat.le_of_ble_eq_true rfl) (Nat.le_of_ble_eq_true rfl) (by decide) (by decide) rfl rfl hin rfl fl_X8_11 eX8_init_9 ?_
  refine n_ald0 eX8_init_12 ?_
  refine n_bipush (v := 60) (by decide) eX8_init_13 ?_
  refine b_newa (k := 19) (N := 60) (Or.inr (Or.inl rfl)) rfl rfl rfl wa_13 ⟨by decide, by decide⟩ (Nat.le_of_ble_eq_true rfl) ⟨Nat.le_of_ble_eq_true rfl, Nat.le_of_ble_eq_true rfl⟩ eX8_init_15 ?_
  refine b_putR (ci := 7) (j := 1) rfl (Nat.le_of_ble_eq_true rfl) (Nat.le_of_ble_eq_true rfl) (by decide) (by decide) rfl rfl hin rfl fl_X8_15 eX8_init_17 ?_
  refine n_ald0 eX8_init_20 ?_
  refine n_bipush (v := 60) (by decide) eX8_init_21 ?_
  refine b_newa (k := 20) (N := 60) (Or.inr (Or.inl rfl)) rfl rfl rfl wa_13 ⟨by decide, by decide⟩ (Nat.le_of_ble_eq_true rfl) ⟨Nat.le_of_ble_eq_true rfl, Nat.le_of_ble_eq_true rfl⟩ eX8_init_23 ?_
  refine b_putR (ci := 7) (j := 2) rfl (Nat.le_of_ble_eq_true rfl) (Nat.le_of_ble_eq_true rfl) (by decide) (by decide) rfl rfl hin rfl fl_X8_18 eX8_init_25 ?_
  refine n_ald0 eX8_init_28 ?_
  refine n_bipush (v := 60) (by decide) eX8_init_29 ?_
  refine b_newa (k := 21) (N := 60) (Or.inr (Or.inl rfl)) rfl rfl rfl wa_13 ⟨by decide, by decide⟩ (Nat.le_of_ble_eq_true rfl) ⟨Nat.le_of_ble_eq_true rfl, Nat.le_of_ble_eq_true rfl⟩ eX8_init_31 ?_
  refine b_putR (ci := 7) (j := 3) rfl (Nat.le_of_ble_eq_true rfl) (Nat.le_of_ble_eq_true rfl) (by decide) (by decide) rfl rfl hin rfl fl_X8_21 eX8_init_33 ?_
  refine n_ald0 eX8_init_36 ?_
  refine n_iconst (v := 0) (by decide) eX8_init_37 ?_
  refine b_put0 (ci := 7) (j := 4) rfl (Nat.le_of_ble_eq_true rfl) (Nat.le_of_ble_eq_true rfl) (by decide) (by decide) (Or.inl rfl) (hz17 4) hin rfl fl_X8_24 eX8_init_38 ?_
  exact b_vret (d := 0) rfl (Nat.le_of_ble_eq_true rfl) (Nat.le_of_ble_eq_true rfl) eX8_init_41
theorem i_names (t : Int32) (Lr : RL9) (st : St) (hz10 : ∀ j, st.1 10 j = 0) : MB l D cy ad bs 1 3 900 YX4_init NB [.ref 10, .int t] 21 Lr st none 24 ((10, 3) :: (10, 2) :: (10, 1) :: Lr) (sI (sI st 10 6 (-1)) 10 0 t) := by
  refine MB.ofG [some (.ref 10), some (.int t)] (by decide) (Nat.le_of_ble_eq_true rfl) rfl ?_
  intro p e s m args below meth c hin hB
  refine n_ald0 eX4_init_0 ?_
  refine b_init wob_X4 ⟨Nat.le_of_ble_eq_true rfl, Nat.le_of_ble_eq_true rfl⟩ (Nat.le_of_ble_eq_true rfl) eX4_init_1 ?_
  refine n_ald0 eX4_init_4 ?_
  refine n_sipush (v := 300) (by decide) eX4_init_5 ?_
  refine b_newa (k := 11) (N := 300) (Or.inr (Or.inr (Or.inl rfl))) rfl rfl rfl wa_14 ⟨by decide, by decide⟩ (Nat.le_of_ble_eq_true rfl) ⟨Nat.le_of_ble_eq_true rfl, Nat.le_of_ble_eq_true rfl⟩ eX4_init_8 ?_
  refine b_putR (ci := 4) (j := 1) rfl (Nat.le_of_ble_eq_true rfl) (Nat.le_of_ble_eq_true rfl) (by decide) (by decide) rfl rfl hin rfl fl_X4_11 eX4_init_10 ?_
  refine n_ald0 eX4_init_13 ?_
  refine n_sipush (v := 300) (by decide) eX4_init_14 ?_
  refine b_newa (k := 12) (N := 300) (Or.inr (Or.inl rfl)) rfl rfl rfl wa_13 ⟨by decide, by decide⟩ (Nat.le_of_ble_eq_true rfl) ⟨Nat.le_of_ble_eq_true rfl, Nat.le_of_ble_eq_true rfl⟩ eX4_init_17 ?_
  refine b_putR (ci := 4) (j := 2) rfl (Nat.le_of_ble_eq_true rfl) (Nat.le_of_ble_eq_true rfl) (by decide) (by decide) rfl rfl hin rfl fl_X4_17 eX4_init_19 ?_
  refine n_ald0 eX4_init_22 ?_
  refine n_sipush (v := 300) (by decide) eX4_init_23 ?_
  refine b_newa (k := 13) (N := 300) (Or.inr (Or.inl rfl)) rfl rfl rfl wa_13 ⟨by decide, by decide⟩ (Nat.le_of_ble_eq_true rfl) ⟨Nat.le_of_ble_eq_true rfl, Nat.le_of_ble_eq_true rfl⟩ eX4_init_26 ?_
  refine b_putR (ci := 4) (j := 3) rfl (Nat.le_of_ble_eq_true rfl) (Nat.le_of_ble_eq_true rfl) (by decide) (by decide) rfl rfl hin rfl fl_X4_21 eX4_init_28 ?_
  refine n_ald0 eX4_init_31 ?_
  refine n_iconst (v := 0) (by decide) eX4_init_32 ?_
  refine b_put0 (ci := 4) (j := 4) rfl (Nat.le_of_ble_eq_true rfl) (Nat.le_of_ble_eq_true rfl) (by decide) (by decide) (Or.inl rfl) (hz10 4) hin rfl fl_X4_24 eX4_init_33 ?_
  refine n_ald0 eX4_init_36 ?_
  refine n_iconst (v := 0) (by decide) eX4_init_37 ?_
  refine b_put0 (ci := 4) (j := 5) rfl (Nat.le_of_ble_eq_true rfl) (Nat.le_of_ble_eq_true rfl) (by decide) (by decide) (Or.inl rfl) (hz10 5) hin rfl fl_X4_28 eX4_init_38 ?_
  refine n_ald0 eX4_init_41 ?_
  refine n_iconst (v := (-1)) (by decide) eX4_init_42 ?_
  refine b_putI (ci := 4) (j := 6) rfl (Nat.le_of_ble_eq_true rfl) (Nat.le_of_ble_eq_true rfl) (by decide) (by decide) (Or.inl rfl) hin rfl fl_X4_31 eX4_init_43 ?_
  refine n_ald0 eX4_init_46 ?_
  refine n_ild1 eX4_init_47 ?_
  refine b_putI (ci := 4) (j := 0) rfl (Nat.le_of_ble_eq_true rfl) (Nat.le_of_ble_eq_true rfl) (by decide) (by decide) (Or.inl rfl) hin rfl fl_X4_34 eX4_init_48 ?_
  exact b_vret (d := 0) rfl (Nat.le_of_ble_eq_true rfl) (Nat.le_of_ble_eq_true rfl) eX4_init_51
theorem i_maker (t : Int32) (Lr : RL9) (st : St) (hz14 : ∀ j, st.1 14 j = 0) : MB l D cy ad bs 1 1 300 YX3_init NB [.ref 14, .int t] 25 Lr st none 26 ((14, 1) :: Lr) (sI (sI st 14 3 (-1)) 14 0 t) := by
  refine MB.ofG [some (.ref 14), some (.int t)] (by decide) (Nat.le_of_ble_eq_true rfl) rfl ?_
  intro p e s m args below meth c hin hB
  refine n_ald0 eX3_init_0 ?_
  refine b_init wob_X3 ⟨Nat.le_of_ble_eq_true rfl, Nat.le_of_ble_eq_true rfl⟩ (Nat.le_of_ble_eq_true rfl) eX3_init_1 ?_
  refine n_ald0 eX3_init_4 ?_
  refine n_sipush (v := 300) (by decide) eX3_init_5 ?_
  refine b_newa (k := 15) (N := 300) (Or.inr (Or.inl rfl)) rfl rfl rfl wa_13 ⟨by decide, by decide⟩ (Nat.le_of_ble_eq_true rfl) ⟨Nat.le_of_ble_eq_true rfl, Nat.le_of_ble_eq_true rfl⟩ eX3_init_8 ?_
  refine b_putR (ci := 3) (j := 1) rfl (Nat.le_of_ble_eq_true rfl) (Nat.le_of_ble_eq_true rfl) (by decide) (by decide) rfl rfl hin rfl fl_X3_11 eX3_init_10 ?_
  refine n_ald0 eX3_init_13 ?_
  refine n_iconst (v := 0) (by decide) eX3_init_14 ?_
  refine b_put0 (ci := 3) (j := 2) rfl (Nat.le_of_ble_eq_true rfl) (Nat.le_of_ble_eq_true rfl) (by decide) (by decide) (Or.inl rfl) (hz14 2) hin rfl fl_X3_17 eX3_init_15 ?_
  refine n_ald0 eX3_init_18 ?_
  refine n_iconst (v := (-1)) (by decide) eX3_init_19 ?_
  refine b_putI (ci := 3) (j := 3) rfl (Nat.le_of_ble_eq_true rfl) (Nat.le_of_ble_eq_true rfl) (by decide) (by decide) (Or.inl rfl) hin rfl fl_X3_21 eX3_init_20 ?_
  refine n_ald0 eX3_init_23 ?_
  refine n_ild1 eX3_init_24 ?_
  refine b_putI (ci := 3) (j := 0) rfl (Nat.le_of_ble_eq_true rfl) (Nat.le_of_ble_eq_true rfl) (by decide) (by decide) (Or.inl rfl) hin rfl fl_X3_24 eX3_init_25 ?_
  exact b_vret (d := 0) rfl (Nat.le_of_ble_eq_true rfl) (Nat.le_of_ble_eq_true rfl) eX3_init_28
theorem i_desk (t : Int32) (Lr : RL9) (st : St) (hz24 : ∀ j, st.1 24 j = 0) : MB l D cy ad bs 1 3 96 YX0_init NB [.ref 24, .int t] 27 Lr st none 30 ((24, 3) :: (24, 2) :: (24, 1) :: Lr) (sI st 24 0 t) := by
  refine MB.ofG [some (.ref 24), some (.int t)] (by decide) (Nat.le_of_ble_eq_true rfl) rfl ?_
  intro p e s m args below meth c hin hB
  refine n_ald0 eX0_init_0 ?_
  refine b_init wob_X0 ⟨Nat.le_of_ble_eq_true rfl, Nat.le_of_ble_eq_true rfl⟩ (Nat.le_of_ble_eq_true rfl) eX0_init_1 ?_
  refine n_ald0 eX0_init_4 ?_
  refine n_bipush (v := 46) (by decide) eX0_init_5 ?_
  refine b_newa (k := 25) (N := 46) (Or.inr (Or.inl rfl)) rfl rfl rfl wa_13 ⟨by decide, by decide⟩ (Nat.le_of_ble_eq_true rfl) ⟨Nat.le_of_ble_eq_true rfl, Nat.le_of_ble_eq_true rfl⟩ eX0_init_7 ?_
  refine b_putR (ci := 0) (j := 1) rfl (Nat.le_of_ble_eq_true rfl) (Nat.le_of_ble_eq_true rfl) (by decide) (by decide) rfl rfl hin rfl fl_X0_11 eX0_init_9 ?_
  refine n_ald0 eX0_init_12 ?_
  refine n_bipush (v := 46) (by decide) eX0_init_13 ?_
  refine b_newa (k := 26) (N := 46) (Or.inr (Or.inl rfl)) rfl rfl rfl wa_13 ⟨by decide, by decide⟩ (Nat.le_of_ble_eq_true rfl) ⟨Nat.le_of_ble_eq_true rfl, Nat.le_of_ble_eq_true rfl⟩ eX0_init_15 ?_
  refine b_putR (ci := 0) (j := 2) rfl (Nat.le_of_ble_eq_true rfl) (Nat.le_of_ble_eq_true rfl) (by decide) (by decide) rfl rfl hin rfl fl_X0_17 eX0_init_17 ?_
  refine n_ald0 eX0_init_20 ?_
  refine n_iconst (v := 4) (by decide) eX0_init_21 ?_
  refine b_newa (k := 27) (N := 4) (Or.inr (Or.inl rfl)) rfl rfl rfl wa_13 ⟨by decide, by decide⟩ (Nat.le_of_ble_eq_true rfl) ⟨Nat.le_of_ble_eq_true rfl, Nat.le_of_ble_eq_true rfl⟩ eX0_init_22 ?_
  refine b_putR (ci := 0) (j := 3) rfl (Nat.le_of_ble_eq_true rfl) (Nat.le_of_ble_eq_true rfl) (by decide) (by decide) rfl rfl hin rfl fl_X0_20 eX0_init_24 ?_
  refine n_ald0 eX0_init_27 ?_
  refine n_ild1 eX0_init_28 ?_
  refine b_putI (ci := 0) (j := 0) rfl (Nat.le_of_ble_eq_true rfl) (Nat.le_of_ble_eq_true rfl) (by decide) (by decide) (Or.inl rfl) hin rfl fl_X0_23 eX0_init_29 ?_
  exact b_vret (d := 0) rfl (Nat.le_of_ble_eq_true rfl) (Nat.le_of_ble_eq_true rfl) eX0_init_32
end IC
