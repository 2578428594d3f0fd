/-! the model's constructor (written by wip/tools/gen25.py) -/
section IM
variable {l : Launch} {D : va_G} {cy : Nat → ClassId} {ad : Nat → Nat} {bs : Nat}
abbrev L_model : RL9 := ((31, 77) :: (31, 76) :: (31, 75) :: (31, 74) :: (31, 73) :: (31, 72) :: (31, 71) :: (31, 70) :: (31, 69) :: (31, 68) :: (31, 67) :: (31, 66) :: (31, 62) :: (31, 61) :: (31, 60) :: (31, 59) :: (31, 57) :: (31, 56) :: (31, 55) :: (31, 54) :: (31, 52) :: (31, 51) :: (31, 48) :: (31, 47) :: (31, 46) :: (31, 45) :: (31, 43) :: (31, 42) :: (31, 41) :: (31, 40) :: (31, 39) :: (31, 35) :: (31, 34) :: (31, 33) :: (31, 31) :: (31, 30) :: (31, 29) :: (31, 27) :: (31, 26) :: (31, 25) :: (31, 24) :: (31, 23) :: (31, 22) :: (31, 21) :: (31, 8) :: (31, 7) :: (31, 6) :: (31, 5) :: (31, 4) :: (31, 2) :: (31, 0) :: [])
abbrev S_model (st : St) (tv : Int32) : St := (sI (sI (sI (sI (sI (sI (sI (sL (sL (sL (sL (sL (sL (sI st 31 16 (-1)) 38 0 (woF 105 110 0 0 0 0 0)) 38 1 (woF 116 97 98 108 101 0 0)) 38 2 (woF 108 101 116 0 0 0 0)) 38 3 (woF 111 117 116 0 0 0 0)) 38 4 (woF 99 104 111 111 115 101 0)) 38 5 (woF 97 115 107 0 0 0 0)) 31 17 tv) 72 0 (-1)) 72 1 (-1)) 72 2 (-1)) 72 3 (-1)) 72 4 (-1)) 72 5 (-1))
theorem i_model (t tv : Int32) (htv : tv = if t < 2 ∨ 13 < t then 2 else t) (Lr : RL9) (st : St) (hz31 : ∀ j, st.1 31 j = 0) : MB l D cy ad bs 3 51 9611 YX12_init NB [.ref 31, .int t] 63 Lr st none 114 ((31, 77) :: (31, 76) :: (31, 75) :: (31, 74) :: (31, 73) :: (31, 72) :: (31, 71) :: (31, 70) :: (31, 69) :: (31, 68) :: (31, 67) :: (31, 66) :: (31, 62) :: (31, 61) :: (31, 60) :: (31, 59) :: (31, 57) :: (31, 56) :: (31, 55) :: (31, 54) :: (31, 52) :: (31, 51) :: (31, 48) :: (31, 47) :: (31, 46) :: (31, 45) :: (31, 43) :: (31, 42) :: (31, 41) :: (31, 40) :: (31, 39) :: (31, 35) :: (31, 34) :: (31, 33) :: (31, 31) :: (31, 30) :: (31, 29) :: (31, 27) :: (31, 26) :: (31, 25) :: (31, 24) :: (31, 23) :: (31, 22) :: (31, 21) :: (31, 8) :: (31, 7) :: (31, 6) :: (31, 5) :: (31, 4) :: (31, 2) :: (31, 0) :: Lr) (S_model st tv) := by
  refine MB.ofG [some (.ref 31), some (.int t), none] (by decide) (Nat.le_of_ble_eq_true rfl) rfl ?_
  intro p e s m args below meth c hin hB
  have k2 : GB p l e (rmB 3 51 9611) s m args below meth c D cy ad bs (cX12_init, RX12, 3, none) (MQ below (QCg D cy ad bs 114 ((31, 77) :: (31, 76) :: (31, 75) :: (31, 74) :: (31, 73) :: (31, 72) :: (31, 71) :: (31, 70) :: (31, 69) :: (31, 68) :: (31, 67) :: (31, 66) :: (31, 62) :: (31, 61) :: (31, 60) :: (31, 59) :: (31, 57) :: (31, 56) :: (31, 55) :: (31, 54) :: (31, 52) :: (31, 51) :: (31, 48) :: (31, 47) :: (31, 46) :: (31, 45) :: (31, 43) :: (31, 42) :: (31, 41) :: (31, 40) :: (31, 39) :: (31, 35) :: (31, 34) :: (31, 33) :: (31, 31) :: (31, 30) :: (31, 29) :: (31, 27) :: (31, 26) :: (31, 25) :: (31, 24) :: (31, 23) :: (31, 22) :: (31, 21) :: (31, 8) :: (31, 7) :: (31, 6) :: (31, 5) :: (31, 4) :: (31, 2) :: (31, 0) :: Lr) (S_model st tv) none) args s 51 9611 (fun q => bs ≤ q)) 51 9611 114 ((31, 77) :: (31, 76) :: (31, 75) :: (31, 74) :: (31, 73) :: (31, 72) :: (31, 71) :: (31, 70) :: (31, 69) :: (31, 68) :: (31, 67) :: (31, 66) :: (31, 62) :: (31, 61) :: (31, 60) :: (31, 59) :: (31, 57) :: (31, 56) :: (31, 55) :: (31, 54) :: (31, 52) :: (31, 51) :: (31, 48) :: (31, 47) :: (31, 46) :: (31, 45) :: (31, 43) :: (31, 42) :: (31, 41) :: (31, 40) :: (31, 39) :: (31, 35) :: (31, 34) :: (31, 33) :: (31, 31) :: (31, 30) :: (31, 29) :: (31, 27) :: (31, 26) :: (31, 25) :: (31, 24) :: (31, 23) :: (31, 22) :: (31, 21) :: (31, 8) :: (31, 7) :: (31, 6) :: (31, 5) :: (31, 4) :: (31, 2) :: (31, 0) :: Lr) 558 [some (.ref 31), some (.int t), none] [.int tv, .ref 31] (sL (sL (sL (sL (sL (sL (sI st 31 16 (-1)) 38 0 (woF 105 110 0 0 0 0 0)) 38 1 (woF 116 97 98 108 101 0 0)) 38 2 (woF 108 101 116 0 0 0 0)) 38 3 (woF 111 117 116 0 0 0 0)) 38 4 (woF 99 104 111 111 115 101 0)) 38 5 (woF 97 115 107 0 0 0 0)) := by
    refine b_putI (ci := 11) (j := 17) rfl (Nat.le_of_ble_eq_true rfl) (Nat.le_of_ble_eq_true rfl) (by decide) (by decide) (Or.inl rfl) hin rfl fl_X12_174 eX12_init_558 ?_
    refine n_iconst (v := 0) (by decide) eX12_init_561 ?_
    refine n_ist2 rfl (Nat.le_of_ble_eq_true rfl) eX12_init_562 ?_
    refine n_ild2 eX12_init_563 ?_
    refine n_bipush (v := 6) (by decide) eX12_init_564 ?_
    refine n_icmp_ge eX12_init_566 (fun h => absurd h (by decide)) (fun _ => ?_)
    refine n_ald0 eX12_init_569 ?_
    refine b_getR (ci := 11) (j := 67) rfl (Nat.le_of_ble_eq_true rfl) (Nat.le_of_ble_eq_true rfl) (by decide) (by decide) rfl rfl fl_X12_137 eX12_init_570 ?_
    refine n_ild2 eX12_init_573 ?_
    refine n_iconst (v := (-1)) (by decide) eX12_init_574 ?_
    refine b_iast (j := 0) rfl (Nat.le_of_ble_eq_true rfl) (Nat.le_of_ble_eq_true rfl) (by decide) (vp_in_nI (n := 0) (N := 6) (by decide) (by decide)) eX12_init_575 ?_
    refine n_inc2 (v := 1) rfl (Nat.le_of_ble_eq_true rfl) (by decide) eX12_init_576 ?_
    refine n_goto eX12_init_579 ?_
    refine n_ild2 eX12_init_563 ?_
    refine n_bipush (v := 6) (by decide) eX12_init_564 ?_
    refine n_icmp_ge eX12_init_566 (fun h => absurd h (by decide)) (fun _ => ?_)
    refine n_ald0 eX12_init_569 ?_
    refine b_getR (ci := 11) (j := 67) rfl (Nat.le_of_ble_eq_true rfl) (Nat.le_of_ble_eq_true rfl) (by decide) (by decide) rfl rfl fl_X12_137 eX12_init_570 ?_
    refine n_ild2 eX12_init_573 ?_
    refine n_iconst (v := (-1)) (by decide) eX12_init_574 ?_
    refine b_iast (j := 1) rfl (Nat.le_of_ble_eq_true rfl) (Nat.le_of_ble_eq_true rfl) (by decide) (vp_in_nI (n := 1) (N := 6) (by decide) (by decide)) eX12_init_575 ?_
    refine n_inc2 (v := 2) rfl (Nat.le_of_ble_eq_true rfl) (by decide) eX12_init_576 ?_
    refine n_goto eX12_init_579 ?_
    refine n_ild2 eX12_init_563 ?_
    refine n_bipush (v := 6) (by decide) eX12_init_564 ?_
    refine n_icmp_ge eX12_init_566 (fun h => absurd h (by decide)) (fun _ => ?_)
    refine n_ald0 eX12_init_569 ?_
    refine b_getR (ci := 11) (j := 67) rfl (Nat.le_of_ble_eq_true rfl) (Nat.le_of_ble_eq_true rfl) (by decide) (by decide) rfl rfl fl_X12_137 eX12_init_570 ?_
    refine n_ild2 eX12_init_573 ?_
    refine n_iconst (v := (-1)) (by decide) eX12_init_574 ?_
    refine b_iast (j := 2) rfl (Nat.le_of_ble_eq_true rfl) (Nat.le_of_ble_eq_true rfl) (by decide) (vp_in_nI (n := 2) (N := 6) (by decide) (by decide)) eX12_init_575 ?_
    refine n_inc2 (v := 3) rfl (Nat.le_of_ble_eq_true rfl) (by decide) eX12_init_576 ?_
    refine n_goto eX12_init_579 ?_
    refine n_ild2 eX12_init_563 ?_
    refine n_bipush (v := 6) (by decide) eX12_init_564 ?_
    refine n_icmp_ge eX12_init_566 (fun h => absurd h (by decide)) (fun _ => ?_)
    refine n_ald0 eX12_init_569 ?_
    refine b_getR (ci := 11) (j := 67) rfl (Nat.le_of_ble_eq_true rfl) (Nat.le_of_ble_eq_true rfl) (by decide) (by decide) rfl rfl fl_X12_137 eX12_init_570 ?_
    refine n_ild2 eX12_init_573 ?_
    refine n_iconst (v := (-1)) (by decide) eX12_init_574 ?_
    refine b_iast (j := 3) rfl (Nat.le_of_ble_eq_true rfl) (Nat.le_of_ble_eq_true rfl) (by decide) (vp_in_nI (n := 3) (N := 6) (by decide) (by decide)) eX12_init_575 ?_
    refine n_inc2 (v := 4) rfl (Nat.le_of_ble_eq_true rfl) (by decide) eX12_init_576 ?_
    refine n_goto eX12_init_579 ?_
    refine n_ild2 eX12_init_563 ?_
    refine n_bipush (v := 6) (by decide) eX12_init_564 ?_
    refine n_icmp_ge eX12_init_566 (fun h => absurd h (by decide)) (fun _ => ?_)
    refine n_ald0 eX12_init_569 ?_
    refine b_getR (ci := 11) (j := 67) rfl (Nat.le_of_ble_eq_true rfl) (Nat.le_of_ble_eq_true rfl) (by decide) (by decide) rfl rfl fl_X12_137 eX12_init_570 ?_
    refine n_ild2 eX12_init_573 ?_
    refine n_iconst (v := (-1)) (by decide) eX12_init_574 ?_
    refine b_iast (j := 4) rfl (Nat.le_of_ble_eq_true rfl) (Nat.le_of_ble_eq_true rfl) (by decide) (vp_in_nI (n := 4) (N := 6) (by decide) (by decide)) eX12_init_575 ?_
    refine n_inc2 (v := 5) rfl (Nat.le_of_ble_eq_true rfl) (by decide) eX12_init_576 ?_
    refine n_goto eX12_init_579 ?_
    refine n_ild2 eX12_init_563 ?_
    refine n_bipush (v := 6) (by decide) eX12_init_564 ?_
    refine n_icmp_ge eX12_init_566 (fun h => absurd h (by decide)) (fun _ => ?_)
    refine n_ald0 eX12_init_569 ?_
    refine b_getR (ci := 11) (j := 67) rfl (Nat.le_of_ble_eq_true rfl) (Nat.le_of_ble_eq_true rfl) (by decide) (by decide) rfl rfl fl_X12_137 eX12_init_570 ?_
    refine n_ild2 eX12_init_573 ?_
    refine n_iconst (v := (-1)) (by decide) eX12_init_574 ?_
    refine b_iast (j := 5) rfl (Nat.le_of_ble_eq_true rfl) (Nat.le_of_ble_eq_true rfl) (by decide) (vp_in_nI (n := 5) (N := 6) (by decide) (by decide)) eX12_init_575 ?_
    refine n_inc2 (v := 6) rfl (Nat.le_of_ble_eq_true rfl) (by decide) eX12_init_576 ?_
    refine n_goto eX12_init_579 ?_
    refine n_ild2 eX12_init_563 ?_
    refine n_bipush (v := 6) (by decide) eX12_init_564 ?_
    refine n_icmp_ge eX12_init_566 (fun _ => ?_) (fun h => absurd (by decide) h)
    exact b_vret (d := 0) rfl (Nat.le_of_ble_eq_true rfl) (Nat.le_of_ble_eq_true rfl) eX12_init_582
  refine n_ald0 eX12_init_0 ?_
  refine b_init wob_X12 ⟨Nat.le_of_ble_eq_true rfl, Nat.le_of_ble_eq_true rfl⟩ (Nat.le_of_ble_eq_true rfl) eX12_init_1 ?_
  refine n_ald0 eX12_init_4 ?_
  refine n_sipush (v := 2000) (by decide) eX12_init_5 ?_
  refine b_newa (k := 32) (N := 2000) (Or.inl rfl) rfl rfl rfl wa_12 ⟨by decide, by decide⟩ (Nat.le_of_ble_eq_true rfl) ⟨Nat.le_of_ble_eq_true rfl, Nat.le_of_ble_eq_true rfl⟩ eX12_init_8 ?_
  refine b_putR (ci := 11) (j := 0) rfl (Nat.le_of_ble_eq_true rfl) (Nat.le_of_ble_eq_true rfl) (by decide) (by decide) rfl rfl hin rfl fl_X12_7 eX12_init_10 ?_
  refine n_ald0 eX12_init_13 ?_
  refine n_sipush (v := 2000) (by decide) eX12_init_14 ?_
  refine b_newa (k := 33) (N := 2000) (Or.inl rfl) rfl rfl rfl wa_12 ⟨by decide, by decide⟩ (Nat.le_of_ble_eq_true rfl) ⟨Nat.le_of_ble_eq_true rfl, Nat.le_of_ble_eq_true rfl⟩ eX12_init_17 ?_
  refine b_putR (ci := 11) (j := 2) rfl (Nat.le_of_ble_eq_true rfl) (Nat.le_of_ble_eq_true rfl) (by decide) (by decide) rfl rfl hin rfl fl_X12_13 eX12_init_19 ?_
  refine n_ald0 eX12_init_22 ?_
  refine n_sipush (v := 303) (by decide) eX12_init_23 ?_
  refine b_newa (k := 34) (N := 303) (Or.inr (Or.inl rfl)) rfl rfl rfl wa_13 ⟨by decide, by decide⟩ (Nat.le_of_ble_eq_true rfl) ⟨Nat.le_of_ble_eq_true rfl, Nat.le_of_ble_eq_true rfl⟩ eX12_init_26 ?_
  refine b_putR (ci := 11) (j := 4) rfl (Nat.le_of_ble_eq_true rfl) (Nat.le_of_ble_eq_true rfl) (by decide) (by decide) rfl rfl hin rfl fl_X12_16 eX12_init_28 ?_
  refine n_ald0 eX12_init_31 ?_
  refine n_sipush (v := 303) (by decide) eX12_init_32 ?_
  refine b_newa (k := 35) (N := 303) (Or.inr (Or.inl rfl)) rfl rfl rfl wa_13 ⟨by decide, by decide⟩ (Nat.le_of_ble_eq_true rfl) ⟨Nat.le_of_ble_eq_true rfl, Nat.le_of_ble_eq_true rfl⟩ eX12_init_35 ?_
  refine b_putR (ci := 11) (j := 5) rfl (Nat.le_of_ble_eq_true rfl) (Nat.le_of_ble_eq_true rfl) (by decide) (by decide) rfl rfl hin rfl fl_X12_20 eX12_init_37 ?_
  refine n_ald0 eX12_init_40 ?_
  refine n_sipush (v := 303) (by decide) eX12_init_41 ?_
  refine b_newa (k := 36) (N := 303) (Or.inr (Or.inl rfl)) rfl rfl rfl wa_13 ⟨by decide, by decide⟩ (Nat.le_of_ble_eq_true rfl) ⟨Nat.le_of_ble_eq_true rfl, Nat.le_of_ble_eq_true rfl⟩ eX12_init_44 ?_
  refine b_putR (ci := 11) (j := 6) rfl (Nat.le_of_ble_eq_true rfl) (Nat.le_of_ble_eq_true rfl) (by decide) (by decide) rfl rfl hin rfl fl_X12_23 eX12_init_46 ?_
  refine n_ald0 eX12_init_49 ?_
  refine n_sipush (v := 303) (by decide) eX12_init_50 ?_
  refine b_newa (k := 37) (N := 303) (Or.inr (Or.inr (Or.inl rfl))) rfl rfl rfl wa_14 ⟨by decide, by decide⟩ (Nat.le_of_ble_eq_true rfl) ⟨Nat.le_of_ble_eq_true rfl, Nat.le_of_ble_eq_true rfl⟩ eX12_init_53 ?_
  refine b_putR (ci := 11) (j := 7) rfl (Nat.le_of_ble_eq_true rfl) (Nat.le_of_ble_eq_true rfl) (by decide) (by decide) rfl rfl hin rfl fl_X12_26 eX12_init_55 ?_
  refine n_ald0 eX12_init_58 ?_
  refine n_bipush (v := 6) (by decide) eX12_init_59 ?_
  refine b_newa (k := 38) (N := 6) (Or.inr (Or.inr (Or.inl rfl))) rfl rfl rfl wa_14 ⟨by decide, by decide⟩ (Nat.le_of_ble_eq_true rfl) ⟨Nat.le_of_ble_eq_true rfl, Nat.le_of_ble_eq_true rfl⟩ eX12_init_61 ?_
  refine b_putR (ci := 11) (j := 8) rfl (Nat.le_of_ble_eq_true rfl) (Nat.le_of_ble_eq_true rfl) (by decide) (by decide) rfl rfl hin rfl fl_X12_30 eX12_init_63 ?_
  refine n_ald0 eX12_init_66 ?_
  refine n_iconst (v := (-1)) (by decide) eX12_init_67 ?_
  refine b_putI (ci := 11) (j := 16) rfl (Nat.le_of_ble_eq_true rfl) (Nat.le_of_ble_eq_true rfl) (by decide) (by decide) (Or.inl rfl) hin rfl fl_X12_33 eX12_init_68 ?_
  refine n_ald0 eX12_init_71 ?_
  refine n_iconst (v := 5) (by decide) eX12_init_72 ?_
  refine b_newa (k := 39) (N := 5) (Or.inr (Or.inl rfl)) rfl rfl rfl wa_13 ⟨by decide, by decide⟩ (Nat.le_of_ble_eq_true rfl) ⟨Nat.le_of_ble_eq_true rfl, Nat.le_of_ble_eq_true rfl⟩ eX12_init_73 ?_
  refine b_putR (ci := 11) (j := 21) rfl (Nat.le_of_ble_eq_true rfl) (Nat.le_of_ble_eq_true rfl) (by decide) (by decide) rfl rfl hin rfl fl_X12_37 eX12_init_75 ?_
  refine n_ald0 eX12_init_78 ?_
  refine n_iconst (v := 5) (by decide) eX12_init_79 ?_
  refine b_newa (k := 40) (N := 5) (Or.inr (Or.inl rfl)) rfl rfl rfl wa_13 ⟨by decide, by decide⟩ (Nat.le_of_ble_eq_true rfl) ⟨Nat.le_of_ble_eq_true rfl, Nat.le_of_ble_eq_true rfl⟩ eX12_init_80 ?_
  refine b_putR (ci := 11) (j := 22) rfl (Nat.le_of_ble_eq_true rfl) (Nat.le_of_ble_eq_true rfl) (by decide) (by decide) rfl rfl hin rfl fl_X12_40 eX12_init_82 ?_
  refine n_ald0 eX12_init_85 ?_
  refine n_bipush (v := 20) (by decide) eX12_init_86 ?_
  refine b_newa (k := 41) (N := 20) (Or.inr (Or.inl rfl)) rfl rfl rfl wa_13 ⟨by decide, by decide⟩ (Nat.le_of_ble_eq_true rfl) ⟨Nat.le_of_ble_eq_true rfl, Nat.le_of_ble_eq_true rfl⟩ eX12_init_88 ?_
  refine b_putR (ci := 11) (j := 23) rfl (Nat.le_of_ble_eq_true rfl) (Nat.le_of_ble_eq_true rfl) (by decide) (by decide) rfl rfl hin rfl fl_X12_43 eX12_init_90 ?_
  refine n_ald0 eX12_init_93 ?_
  refine n_iconst (v := 5) (by decide) eX12_init_94 ?_
  refine b_newa (k := 42) (N := 5) (Or.inr (Or.inl rfl)) rfl rfl rfl wa_13 ⟨by decide, by decide⟩ (Nat.le_of_ble_eq_true rfl) ⟨Nat.le_of_ble_eq_true rfl, Nat.le_of_ble_eq_true rfl⟩ eX12_init_95 ?_
  refine b_putR (ci := 11) (j := 24) rfl (Nat.le_of_ble_eq_true rfl) (Nat.le_of_ble_eq_true rfl) (by decide) (by decide) rfl rfl hin rfl fl_X12_46 eX12_init_97 ?_
  refine n_ald0 eX12_init_100 ?_
  refine n_sipush (v := 200) (by decide) eX12_init_101 ?_
  refine b_newa (k := 43) (N := 200) (Or.inr (Or.inl rfl)) rfl rfl rfl wa_13 ⟨by decide, by decide⟩ (Nat.le_of_ble_eq_true rfl) ⟨Nat.le_of_ble_eq_true rfl, Nat.le_of_ble_eq_true rfl⟩ eX12_init_104 ?_
  refine b_putR (ci := 11) (j := 25) rfl (Nat.le_of_ble_eq_true rfl) (Nat.le_of_ble_eq_true rfl) (by decide) (by decide) rfl rfl hin rfl fl_X12_49 eX12_init_106 ?_
  refine n_ald0 eX12_init_109 ?_
  refine n_sipush (v := 200) (by decide) eX12_init_110 ?_
  refine b_newa (k := 44) (N := 200) (Or.inr (Or.inl rfl)) rfl rfl rfl wa_13 ⟨by decide, by decide⟩ (Nat.le_of_ble_eq_true rfl) ⟨Nat.le_of_ble_eq_true rfl, Nat.le_of_ble_eq_true rfl⟩ eX12_init_113 ?_
  refine b_putR (ci := 11) (j := 26) rfl (Nat.le_of_ble_eq_true rfl) (Nat.le_of_ble_eq_true rfl) (by decide) (by decide) rfl rfl hin rfl fl_X12_52 eX12_init_115 ?_
  refine n_ald0 eX12_init_118 ?_
  refine n_sipush (v := 200) (by decide) eX12_init_119 ?_
  refine b_newa (k := 45) (N := 200) (Or.inr (Or.inl rfl)) rfl rfl rfl wa_13 ⟨by decide, by decide⟩ (Nat.le_of_ble_eq_true rfl) ⟨Nat.le_of_ble_eq_true rfl, Nat.le_of_ble_eq_true rfl⟩ eX12_init_122 ?_
  refine b_putR (ci := 11) (j := 27) rfl (Nat.le_of_ble_eq_true rfl) (Nat.le_of_ble_eq_true rfl) (by decide) (by decide) rfl rfl hin rfl fl_X12_55 eX12_init_124 ?_
  refine n_ald0 eX12_init_127 ?_
  refine n_sipush (v := 300) (by decide) eX12_init_128 ?_
  refine b_newa (k := 46) (N := 300) (Or.inr (Or.inr (Or.inl rfl))) rfl rfl rfl wa_14 ⟨by decide, by decide⟩ (Nat.le_of_ble_eq_true rfl) ⟨Nat.le_of_ble_eq_true rfl, Nat.le_of_ble_eq_true rfl⟩ eX12_init_131 ?_
  refine b_putR (ci := 11) (j := 29) rfl (Nat.le_of_ble_eq_true rfl) (Nat.le_of_ble_eq_true rfl) (by decide) (by decide) rfl rfl hin rfl fl_X12_58 eX12_init_133 ?_
  refine n_ald0 eX12_init_136 ?_
  refine n_sipush (v := 300) (by decide) eX12_init_137 ?_
  refine b_newa (k := 47) (N := 300) (Or.inr (Or.inl rfl)) rfl rfl rfl wa_13 ⟨by decide, by decide⟩ (Nat.le_of_ble_eq_true rfl) ⟨Nat.le_of_ble_eq_true rfl, Nat.le_of_ble_eq_true rfl⟩ eX12_init_140 ?_
  refine b_putR (ci := 11) (j := 30) rfl (Nat.le_of_ble_eq_true rfl) (Nat.le_of_ble_eq_true rfl) (by decide) (by decide) rfl rfl hin rfl fl_X12_61 eX12_init_142 ?_
  refine n_ald0 eX12_init_145 ?_
  refine n_sipush (v := 300) (by decide) eX12_init_146 ?_
  refine b_newa (k := 48) (N := 300) (Or.inr (Or.inl rfl)) rfl rfl rfl wa_13 ⟨by decide, by decide⟩ (Nat.le_of_ble_eq_true rfl) ⟨Nat.le_of_ble_eq_true rfl, Nat.le_of_ble_eq_true rfl⟩ eX12_init_149 ?_
  refine b_putR (ci := 11) (j := 31) rfl (Nat.le_of_ble_eq_true rfl) (Nat.le_of_ble_eq_true rfl) (by decide) (by decide) rfl rfl hin rfl fl_X12_64 eX12_init_151 ?_
  refine n_ald0 eX12_init_154 ?_
  refine n_iconst (v := 4) (by decide) eX12_init_155 ?_
  refine b_newa (k := 49) (N := 4) (Or.inr (Or.inl rfl)) rfl rfl rfl wa_13 ⟨by decide, by decide⟩ (Nat.le_of_ble_eq_true rfl) ⟨Nat.le_of_ble_eq_true rfl, Nat.le_of_ble_eq_true rfl⟩ eX12_init_156 ?_
  refine b_putR (ci := 11) (j := 33) rfl (Nat.le_of_ble_eq_true rfl) (Nat.le_of_ble_eq_true rfl) (by decide) (by decide) rfl rfl hin rfl fl_X12_67 eX12_init_158 ?_
  refine n_ald0 eX12_init_161 ?_
  refine n_bipush (v := 52) (by decide) eX12_init_162 ?_
  refine b_newa (k := 50) (N := 52) (Or.inr (Or.inl rfl)) rfl rfl rfl wa_13 ⟨by decide, by decide⟩ (Nat.le_of_ble_eq_true rfl) ⟨Nat.le_of_ble_eq_true rfl, Nat.le_of_ble_eq_true rfl⟩ eX12_init_164 ?_
  refine b_putR (ci := 11) (j := 34) rfl (Nat.le_of_ble_eq_true rfl) (Nat.le_of_ble_eq_true rfl) (by decide) (by decide) rfl rfl hin rfl fl_X12_70 eX12_init_166 ?_
  refine n_ald0 eX12_init_169 ?_
  refine n_bipush (v := 52) (by decide) eX12_init_170 ?_
  refine b_newa (k := 51) (N := 52) (Or.inr (Or.inr (Or.inl rfl))) rfl rfl rfl wa_14 ⟨by decide, by decide⟩ (Nat.le_of_ble_eq_true rfl) ⟨Nat.le_of_ble_eq_true rfl, Nat.le_of_ble_eq_true rfl⟩ eX12_init_172 ?_
  refine b_putR (ci := 11) (j := 35) rfl (Nat.le_of_ble_eq_true rfl) (Nat.le_of_ble_eq_true rfl) (by decide) (by decide) rfl rfl hin rfl fl_X12_73 eX12_init_174 ?_
  refine n_ald0 eX12_init_177 ?_
  refine n_bipush (v := 100) (by decide) eX12_init_178 ?_
  refine b_newa (k := 52) (N := 100) (Or.inr (Or.inl rfl)) rfl rfl rfl wa_13 ⟨by decide, by decide⟩ (Nat.le_of_ble_eq_true rfl) ⟨Nat.le_of_ble_eq_true rfl, Nat.le_of_ble_eq_true rfl⟩ eX12_init_180 ?_
  refine b_putR (ci := 11) (j := 39) rfl (Nat.le_of_ble_eq_true rfl) (Nat.le_of_ble_eq_true rfl) (by decide) (by decide) rfl rfl hin rfl fl_X12_76 eX12_init_182 ?_
  refine n_ald0 eX12_init_185 ?_
  refine n_bipush (v := 100) (by decide) eX12_init_186 ?_
  refine b_newa (k := 53) (N := 100) (Or.inr (Or.inl rfl)) rfl rfl rfl wa_13 ⟨by decide, by decide⟩ (Nat.le_of_ble_eq_true rfl) ⟨Nat.le_of_ble_eq_true rfl, Nat.le_of_ble_eq_true rfl⟩ eX12_init_188 ?_
  refine b_putR (ci := 11) (j := 40) rfl (Nat.le_of_ble_eq_true rfl) (Nat.le_of_ble_eq_true rfl) (by decide) (by decide) rfl rfl hin rfl fl_X12_79 eX12_init_190 ?_
  refine n_ald0 eX12_init_193 ?_
  refine n_bipush (v := 100) (by decide) eX12_init_194 ?_
  refine b_newa (k := 54) (N := 100) (Or.inr (Or.inl rfl)) rfl rfl rfl wa_13 ⟨by decide, by decide⟩ (Nat.le_of_ble_eq_true rfl) ⟨Nat.le_of_ble_eq_true rfl, Nat.le_of_ble_eq_true rfl⟩ eX12_init_196 ?_
  refine b_putR (ci := 11) (j := 41) rfl (Nat.le_of_ble_eq_true rfl) (Nat.le_of_ble_eq_true rfl) (by decide) (by decide) rfl rfl hin rfl fl_X12_82 eX12_init_198 ?_
  refine n_ald0 eX12_init_201 ?_
  refine n_bipush (v := 100) (by decide) eX12_init_202 ?_
  refine b_newa (k := 55) (N := 100) (Or.inr (Or.inl rfl)) rfl rfl rfl wa_13 ⟨by decide, by decide⟩ (Nat.le_of_ble_eq_true rfl) ⟨Nat.le_of_ble_eq_true rfl, Nat.le_of_ble_eq_true rfl⟩ eX12_init_204 ?_
  refine b_putR (ci := 11) (j := 42) rfl (Nat.le_of_ble_eq_true rfl) (Nat.le_of_ble_eq_true rfl) (by decide) (by decide) rfl rfl hin rfl fl_X12_85 eX12_init_206 ?_
  refine n_ald0 eX12_init_209 ?_
  refine n_bipush (v := 100) (by decide) eX12_init_210 ?_
  refine b_newa (k := 56) (N := 100) (Or.inr (Or.inl rfl)) rfl rfl rfl wa_13 ⟨by decide, by decide⟩ (Nat.le_of_ble_eq_true rfl) ⟨Nat.le_of_ble_eq_true rfl, Nat.le_of_ble_eq_true rfl⟩ eX12_init_212 ?_
  refine b_putR (ci := 11) (j := 43) rfl (Nat.le_of_ble_eq_true rfl) (Nat.le_of_ble_eq_true rfl) (by decide) (by decide) rfl rfl hin rfl fl_X12_88 eX12_init_214 ?_
  refine n_ald0 eX12_init_217 ?_
  refine n_sipush (v := 400) (by decide) eX12_init_218 ?_
  refine b_newa (k := 57) (N := 400) (Or.inr (Or.inl rfl)) rfl rfl rfl wa_13 ⟨by decide, by decide⟩ (Nat.le_of_ble_eq_true rfl) ⟨Nat.le_of_ble_eq_true rfl, Nat.le_of_ble_eq_true rfl⟩ eX12_init_221 ?_
  refine b_putR (ci := 11) (j := 45) rfl (Nat.le_of_ble_eq_true rfl) (Nat.le_of_ble_eq_true rfl) (by decide) (by decide) rfl rfl hin rfl fl_X12_91 eX12_init_223 ?_
  refine n_ald0 eX12_init_226 ?_
  refine n_sipush (v := 400) (by decide) eX12_init_227 ?_
  refine b_newa (k := 58) (N := 400) (Or.inr (Or.inl rfl)) rfl rfl rfl wa_13 ⟨by decide, by decide⟩ (Nat.le_of_ble_eq_true rfl) ⟨Nat.le_of_ble_eq_true rfl, Nat.le_of_ble_eq_true rfl⟩ eX12_init_230 ?_
  refine b_putR (ci := 11) (j := 46) rfl (Nat.le_of_ble_eq_true rfl) (Nat.le_of_ble_eq_true rfl) (by decide) (by decide) rfl rfl hin rfl fl_X12_94 eX12_init_232 ?_
  refine n_ald0 eX12_init_235 ?_
  refine n_sipush (v := 320) (by decide) eX12_init_236 ?_
  refine b_newa (k := 59) (N := 320) (Or.inr (Or.inl rfl)) rfl rfl rfl wa_13 ⟨by decide, by decide⟩ (Nat.le_of_ble_eq_true rfl) ⟨Nat.le_of_ble_eq_true rfl, Nat.le_of_ble_eq_true rfl⟩ eX12_init_239 ?_
  refine b_putR (ci := 11) (j := 47) rfl (Nat.le_of_ble_eq_true rfl) (Nat.le_of_ble_eq_true rfl) (by decide) (by decide) rfl rfl hin rfl fl_X12_97 eX12_init_241 ?_
  refine n_ald0 eX12_init_244 ?_
  refine n_sipush (v := 320) (by decide) eX12_init_245 ?_
  refine b_newa (k := 60) (N := 320) (Or.inr (Or.inl rfl)) rfl rfl rfl wa_13 ⟨by decide, by decide⟩ (Nat.le_of_ble_eq_true rfl) ⟨Nat.le_of_ble_eq_true rfl, Nat.le_of_ble_eq_true rfl⟩ eX12_init_248 ?_
  refine b_putR (ci := 11) (j := 48) rfl (Nat.le_of_ble_eq_true rfl) (Nat.le_of_ble_eq_true rfl) (by decide) (by decide) rfl rfl hin rfl fl_X12_100 eX12_init_250 ?_
  refine n_ald0 eX12_init_253 ?_
  refine n_sipush (v := 310) (by decide) eX12_init_254 ?_
  refine b_newa (k := 61) (N := 310) (Or.inr (Or.inl rfl)) rfl rfl rfl wa_13 ⟨by decide, by decide⟩ (Nat.le_of_ble_eq_true rfl) ⟨Nat.le_of_ble_eq_true rfl, Nat.le_of_ble_eq_true rfl⟩ eX12_init_257 ?_
  refine b_putR (ci := 11) (j := 51) rfl (Nat.le_of_ble_eq_true rfl) (Nat.le_of_ble_eq_true rfl) (by decide) (by decide) rfl rfl hin rfl fl_X12_103 eX12_init_259 ?_
  refine n_ald0 eX12_init_262 ?_
  refine n_bipush (v := 14) (by decide) eX12_init_263 ?_
  refine b_newa (k := 62) (N := 14) (Or.inr (Or.inr (Or.inl rfl))) rfl rfl rfl wa_14 ⟨by decide, by decide⟩ (Nat.le_of_ble_eq_true rfl) ⟨Nat.le_of_ble_eq_true rfl, Nat.le_of_ble_eq_true rfl⟩ eX12_init_265 ?_
  refine b_putR (ci := 11) (j := 52) rfl (Nat.le_of_ble_eq_true rfl) (Nat.le_of_ble_eq_true rfl) (by decide) (by decide) rfl rfl hin rfl fl_X12_106 eX12_init_267 ?_
  refine n_ald0 eX12_init_270 ?_
  refine n_iconst (v := 4) (by decide) eX12_init_271 ?_
  refine b_newa (k := 63) (N := 4) (Or.inr (Or.inl rfl)) rfl rfl rfl wa_13 ⟨by decide, by decide⟩ (Nat.le_of_ble_eq_true rfl) ⟨Nat.le_of_ble_eq_true rfl, Nat.le_of_ble_eq_true rfl⟩ eX12_init_272 ?_
  refine b_putR (ci := 11) (j := 54) rfl (Nat.le_of_ble_eq_true rfl) (Nat.le_of_ble_eq_true rfl) (by decide) (by decide) rfl rfl hin rfl fl_X12_109 eX12_init_274 ?_
  refine n_ald0 eX12_init_277 ?_
  refine n_iconst (v := 4) (by decide) eX12_init_278 ?_
  refine b_newa (k := 64) (N := 4) (Or.inr (Or.inl rfl)) rfl rfl rfl wa_13 ⟨by decide, by decide⟩ (Nat.le_of_ble_eq_true rfl) ⟨Nat.le_of_ble_eq_true rfl, Nat.le_of_ble_eq_true rfl⟩ eX12_init_279 ?_
  refine b_putR (ci := 11) (j := 55) rfl (Nat.le_of_ble_eq_true rfl) (Nat.le_of_ble_eq_true rfl) (by decide) (by decide) rfl rfl hin rfl fl_X12_112 eX12_init_281 ?_
  refine n_ald0 eX12_init_284 ?_
  refine n_iconst (v := 4) (by decide) eX12_init_285 ?_
  refine b_newa (k := 65) (N := 4) (Or.inr (Or.inl rfl)) rfl rfl rfl wa_13 ⟨by decide, by decide⟩ (Nat.le_of_ble_eq_true rfl) ⟨Nat.le_of_ble_eq_true rfl, Nat.le_of_ble_eq_true rfl⟩ eX12_init_286 ?_
  refine b_putR (ci := 11) (j := 56) rfl (Nat.le_of_ble_eq_true rfl) (Nat.le_of_ble_eq_true rfl) (by decide) (by decide) rfl rfl hin rfl fl_X12_115 eX12_init_288 ?_
  refine n_ald0 eX12_init_291 ?_
  refine n_iconst (v := 4) (by decide) eX12_init_292 ?_
  refine b_newa (k := 66) (N := 4) (Or.inr (Or.inr (Or.inr rfl))) rfl rfl rfl wa_15 ⟨by decide, by decide⟩ (Nat.le_of_ble_eq_true rfl) ⟨Nat.le_of_ble_eq_true rfl, Nat.le_of_ble_eq_true rfl⟩ eX12_init_293 ?_
  refine b_putR (ci := 11) (j := 57) rfl (Nat.le_of_ble_eq_true rfl) (Nat.le_of_ble_eq_true rfl) (by decide) (by decide) rfl rfl hin rfl fl_X12_118 eX12_init_295 ?_
  refine n_ald0 eX12_init_298 ?_
  refine n_bipush (v := 60) (by decide) eX12_init_299 ?_
  refine b_newa (k := 67) (N := 60) (Or.inr (Or.inl rfl)) rfl rfl rfl wa_13 ⟨by decide, by decide⟩ (Nat.le_of_ble_eq_true rfl) ⟨Nat.le_of_ble_eq_true rfl, Nat.le_of_ble_eq_true rfl⟩ eX12_init_301 ?_
  refine b_putR (ci := 11) (j := 59) rfl (Nat.le_of_ble_eq_true rfl) (Nat.le_of_ble_eq_true rfl) (by decide) (by decide) rfl rfl hin rfl fl_X12_122 eX12_init_303 ?_
  refine n_ald0 eX12_init_306 ?_
  refine n_bipush (v := 60) (by decide) eX12_init_307 ?_
  refine b_newa (k := 68) (N := 60) (Or.inr (Or.inr (Or.inl rfl))) rfl rfl rfl wa_14 ⟨by decide, by decide⟩ (Nat.le_of_ble_eq_true rfl) ⟨Nat.le_of_ble_eq_true rfl, Nat.le_of_ble_eq_true rfl⟩ eX12_init_309 ?_
  refine b_putR (ci := 11) (j := 60) rfl (Nat.le_of_ble_eq_true rfl) (Nat.le_of_ble_eq_true rfl) (by decide) (by decide) rfl rfl hin rfl fl_X12_125 eX12_init_311 ?_
  refine n_ald0 eX12_init_314 ?_
  refine n_bipush (v := 60) (by decide) eX12_init_315 ?_
  refine b_newa (k := 69) (N := 60) (Or.inr (Or.inr (Or.inl rfl))) rfl rfl rfl wa_14 ⟨by decide, by decide⟩ (Nat.le_of_ble_eq_true rfl) ⟨Nat.le_of_ble_eq_true rfl, Nat.le_of_ble_eq_true rfl⟩ eX12_init_317 ?_
  refine b_putR (ci := 11) (j := 61) rfl (Nat.le_of_ble_eq_true rfl) (Nat.le_of_ble_eq_true rfl) (by decide) (by decide) rfl rfl hin rfl fl_X12_128 eX12_init_319 ?_
  refine n_ald0 eX12_init_322 ?_
  refine n_bipush (v := 60) (by decide) eX12_init_323 ?_
  refine b_newa (k := 70) (N := 60) (Or.inr (Or.inl rfl)) rfl rfl rfl wa_13 ⟨by decide, by decide⟩ (Nat.le_of_ble_eq_true rfl) ⟨Nat.le_of_ble_eq_true rfl, Nat.le_of_ble_eq_true rfl⟩ eX12_init_325 ?_
  refine b_putR (ci := 11) (j := 62) rfl (Nat.le_of_ble_eq_true rfl) (Nat.le_of_ble_eq_true rfl) (by decide) (by decide) rfl rfl hin rfl fl_X12_131 eX12_init_327 ?_
  refine n_ald0 eX12_init_330 ?_
  refine n_bipush (v := 40) (by decide) eX12_init_331 ?_
  refine b_newa (k := 71) (N := 40) (Or.inr (Or.inr (Or.inl rfl))) rfl rfl rfl wa_14 ⟨by decide, by decide⟩ (Nat.le_of_ble_eq_true rfl) ⟨Nat.le_of_ble_eq_true rfl, Nat.le_of_ble_eq_true rfl⟩ eX12_init_333 ?_
  refine b_putR (ci := 11) (j := 66) rfl (Nat.le_of_ble_eq_true rfl) (Nat.le_of_ble_eq_true rfl) (by decide) (by decide) rfl rfl hin rfl fl_X12_134 eX12_init_335 ?_
  refine n_ald0 eX12_init_338 ?_
  refine n_bipush (v := 6) (by decide) eX12_init_339 ?_
  refine b_newa (k := 72) (N := 6) (Or.inr (Or.inl rfl)) rfl rfl rfl wa_13 ⟨by decide, by decide⟩ (Nat.le_of_ble_eq_true rfl) ⟨Nat.le_of_ble_eq_true rfl, Nat.le_of_ble_eq_true rfl⟩ eX12_init_341 ?_
  refine b_putR (ci := 11) (j := 67) rfl (Nat.le_of_ble_eq_true rfl) (Nat.le_of_ble_eq_true rfl) (by decide) (by decide) rfl rfl hin rfl fl_X12_137 eX12_init_343 ?_
  refine n_ald0 eX12_init_346 ?_
  refine n_bipush (v := 40) (by decide) eX12_init_347 ?_
  refine b_newa (k := 73) (N := 40) (Or.inr (Or.inr (Or.inl rfl))) rfl rfl rfl wa_14 ⟨by decide, by decide⟩ (Nat.le_of_ble_eq_true rfl) ⟨Nat.le_of_ble_eq_true rfl, Nat.le_of_ble_eq_true rfl⟩ eX12_init_349 ?_
  refine b_putR (ci := 11) (j := 68) rfl (Nat.le_of_ble_eq_true rfl) (Nat.le_of_ble_eq_true rfl) (by decide) (by decide) rfl rfl hin rfl fl_X12_140 eX12_init_351 ?_
  refine n_ald0 eX12_init_354 ?_
  refine n_bipush (v := 40) (by decide) eX12_init_355 ?_
  refine b_newa (k := 74) (N := 40) (Or.inr (Or.inr (Or.inl rfl))) rfl rfl rfl wa_14 ⟨by decide, by decide⟩ (Nat.le_of_ble_eq_true rfl) ⟨Nat.le_of_ble_eq_true rfl, Nat.le_of_ble_eq_true rfl⟩ eX12_init_357 ?_
  refine b_putR (ci := 11) (j := 69) rfl (Nat.le_of_ble_eq_true rfl) (Nat.le_of_ble_eq_true rfl) (by decide) (by decide) rfl rfl hin rfl fl_X12_143 eX12_init_359 ?_
  refine n_ald0 eX12_init_362 ?_
  refine n_bipush (v := 40) (by decide) eX12_init_363 ?_
  refine b_newa (k := 75) (N := 40) (Or.inr (Or.inl rfl)) rfl rfl rfl wa_13 ⟨by decide, by decide⟩ (Nat.le_of_ble_eq_true rfl) ⟨Nat.le_of_ble_eq_true rfl, Nat.le_of_ble_eq_true rfl⟩ eX12_init_365 ?_
  refine b_putR (ci := 11) (j := 70) rfl (Nat.le_of_ble_eq_true rfl) (Nat.le_of_ble_eq_true rfl) (by decide) (by decide) rfl rfl hin rfl fl_X12_146 eX12_init_367 ?_
  refine n_ald0 eX12_init_370 ?_
  refine n_bipush (v := 6) (by decide) eX12_init_371 ?_
  refine b_newa (k := 76) (N := 6) (Or.inr (Or.inl rfl)) rfl rfl rfl wa_13 ⟨by decide, by decide⟩ (Nat.le_of_ble_eq_true rfl) ⟨Nat.le_of_ble_eq_true rfl, Nat.le_of_ble_eq_true rfl⟩ eX12_init_373 ?_
  refine b_putR (ci := 11) (j := 71) rfl (Nat.le_of_ble_eq_true rfl) (Nat.le_of_ble_eq_true rfl) (by decide) (by decide) rfl rfl hin rfl fl_X12_149 eX12_init_375 ?_
  refine n_ald0 eX12_init_378 ?_
  refine n_iconst (v := 4) (by decide) eX12_init_379 ?_
  refine b_newa (k := 77) (N := 4) (Or.inr (Or.inl rfl)) rfl rfl rfl wa_13 ⟨by decide, by decide⟩ (Nat.le_of_ble_eq_true rfl) ⟨Nat.le_of_ble_eq_true rfl, Nat.le_of_ble_eq_true rfl⟩ eX12_init_380 ?_
  refine b_putR (ci := 11) (j := 72) rfl (Nat.le_of_ble_eq_true rfl) (Nat.le_of_ble_eq_true rfl) (by decide) (by decide) rfl rfl hin rfl fl_X12_152 eX12_init_382 ?_
  refine n_ald0 eX12_init_385 ?_
  refine n_iconst (v := 4) (by decide) eX12_init_386 ?_
  refine b_newa (k := 78) (N := 4) (Or.inr (Or.inl rfl)) rfl rfl rfl wa_13 ⟨by decide, by decide⟩ (Nat.le_of_ble_eq_true rfl) ⟨Nat.le_of_ble_eq_true rfl, Nat.le_of_ble_eq_true rfl⟩ eX12_init_387 ?_
  refine b_putR (ci := 11) (j := 73) rfl (Nat.le_of_ble_eq_true rfl) (Nat.le_of_ble_eq_true rfl) (by decide) (by decide) rfl rfl hin rfl fl_X12_155 eX12_init_389 ?_
  refine n_ald0 eX12_init_392 ?_
  refine n_iconst (v := 4) (by decide) eX12_init_393 ?_
  refine b_newa (k := 79) (N := 4) (Or.inr (Or.inl rfl)) rfl rfl rfl wa_13 ⟨by decide, by decide⟩ (Nat.le_of_ble_eq_true rfl) ⟨Nat.le_of_ble_eq_true rfl, Nat.le_of_ble_eq_true rfl⟩ eX12_init_394 ?_
  refine b_putR (ci := 11) (j := 74) rfl (Nat.le_of_ble_eq_true rfl) (Nat.le_of_ble_eq_true rfl) (by decide) (by decide) rfl rfl hin rfl fl_X12_158 eX12_init_396 ?_
  refine n_ald0 eX12_init_399 ?_
  refine n_bipush (v := 24) (by decide) eX12_init_400 ?_
  refine b_newa (k := 80) (N := 24) (Or.inr (Or.inr (Or.inl rfl))) rfl rfl rfl wa_14 ⟨by decide, by decide⟩ (Nat.le_of_ble_eq_true rfl) ⟨Nat.le_of_ble_eq_true rfl, Nat.le_of_ble_eq_true rfl⟩ eX12_init_402 ?_
  refine b_putR (ci := 11) (j := 75) rfl (Nat.le_of_ble_eq_true rfl) (Nat.le_of_ble_eq_true rfl) (by decide) (by decide) rfl rfl hin rfl fl_X12_161 eX12_init_404 ?_
  refine n_ald0 eX12_init_407 ?_
  refine n_bipush (v := 6) (by decide) eX12_init_408 ?_
  refine b_newa (k := 81) (N := 6) (Or.inr (Or.inl rfl)) rfl rfl rfl wa_13 ⟨by decide, by decide⟩ (Nat.le_of_ble_eq_true rfl) ⟨Nat.le_of_ble_eq_true rfl, Nat.le_of_ble_eq_true rfl⟩ eX12_init_410 ?_
  refine b_putR (ci := 11) (j := 76) rfl (Nat.le_of_ble_eq_true rfl) (Nat.le_of_ble_eq_true rfl) (by decide) (by decide) rfl rfl hin rfl fl_X12_164 eX12_init_412 ?_
  refine n_ald0 eX12_init_415 ?_
  refine n_bipush (v := 16) (by decide) eX12_init_416 ?_
  refine b_newa (k := 82) (N := 16) (Or.inr (Or.inl rfl)) rfl rfl rfl wa_13 ⟨by decide, by decide⟩ (Nat.le_of_ble_eq_true rfl) ⟨Nat.le_of_ble_eq_true rfl, Nat.le_of_ble_eq_true rfl⟩ eX12_init_418 ?_
  refine b_putR (ci := 11) (j := 77) rfl (Nat.le_of_ble_eq_true rfl) (Nat.le_of_ble_eq_true rfl) (by decide) (by decide) rfl rfl hin rfl fl_X12_167 eX12_init_420 ?_
  refine n_ald0 eX12_init_423 ?_
  refine b_getR (ci := 11) (j := 8) rfl (Nat.le_of_ble_eq_true rfl) (Nat.le_of_ble_eq_true rfl) (by decide) (by decide) rfl rfl fl_X12_30 eX12_init_424 ?_
  refine n_iconst (v := 0) (by decide) eX12_init_427 ?_
  refine n_bipush (v := 105) (by decide) eX12_init_428 ?_
  refine n_bipush (v := 110) (by decide) eX12_init_430 ?_
  refine n_iconst (v := 0) (by decide) eX12_init_432 ?_
  refine n_iconst (v := 0) (by decide) eX12_init_433 ?_
  refine n_iconst (v := 0) (by decide) eX12_init_434 ?_
  refine n_iconst (v := 0) (by decide) eX12_init_435 ?_
  refine n_iconst (v := 0) (by decide) eX12_init_436 ?_
  refine b_callS (as := [.int 105, .int 110, .int 0, .int 0, .int 0, .int 0, .int 0]) (B := fun _ => True) (i_word 105 110 0 0 0 0 0 _ _ _) cs_X12_170 eX12_init_437 ⟨Nat.le_of_ble_eq_true rfl, Nat.le_of_ble_eq_true rfl⟩ ⟨Nat.le_of_ble_eq_true rfl, Nat.le_of_ble_eq_true rfl⟩ rfl rfl (Nat.le_of_ble_eq_true rfl) (fun _ _ _ _ h => h) (fun _ _ _ _ _ _ => trivial) ?_
  refine b_last (j := 0) rfl (Nat.le_of_ble_eq_true rfl) (Nat.le_of_ble_eq_true rfl) (by decide) (vp_in_nI (n := 0) (N := 6) (by decide) (by decide)) eX12_init_440 ?_
  refine n_ald0 eX12_init_441 ?_
  refine b_getR (ci := 11) (j := 8) rfl (Nat.le_of_ble_eq_true rfl) (Nat.le_of_ble_eq_true rfl) (by decide) (by decide) rfl rfl fl_X12_30 eX12_init_442 ?_
  refine n_iconst (v := 1) (by decide) eX12_init_445 ?_
  refine n_bipush (v := 116) (by decide) eX12_init_446 ?_
  refine n_bipush (v := 97) (by decide) eX12_init_448 ?_
  refine n_bipush (v := 98) (by decide) eX12_init_450 ?_
  refine n_bipush (v := 108) (by decide) eX12_init_452 ?_
  refine n_bipush (v := 101) (by decide) eX12_init_454 ?_
  refine n_iconst (v := 0) (by decide) eX12_init_456 ?_
  refine n_iconst (v := 0) (by decide) eX12_init_457 ?_
  refine b_callS (as := [.int 116, .int 97, .int 98, .int 108, .int 101, .int 0, .int 0]) (B := fun _ => True) (i_word 116 97 98 108 101 0 0 _ _ _) cs_X12_170 eX12_init_458 ⟨Nat.le_of_ble_eq_true rfl, Nat.le_of_ble_eq_true rfl⟩ ⟨Nat.le_of_ble_eq_true rfl, Nat.le_of_ble_eq_true rfl⟩ rfl rfl (Nat.le_of_ble_eq_true rfl) (fun _ _ _ _ h => h) (fun _ _ _ _ _ _ => trivial) ?_
  refine b_last (j := 1) rfl (Nat.le_of_ble_eq_true rfl) (Nat.le_of_ble_eq_true rfl) (by decide) (vp_in_nI (n := 1) (N := 6) (by decide) (by decide)) eX12_init_461 ?_
  refine n_ald0 eX12_init_462 ?_
  refine b_getR (ci := 11) (j := 8) rfl (Nat.le_of_ble_eq_true rfl) (Nat.le_of_ble_eq_true rfl) (by decide) (by decide) rfl rfl fl_X12_30 eX12_init_463 ?_
  refine n_iconst (v := 2) (by decide) eX12_init_466 ?_
  refine n_bipush (v := 108) (by decide) eX12_init_467 ?_
  refine n_bipush (v := 101) (by decide) eX12_init_469 ?_
  refine n_bipush (v := 116) (by decide) eX12_init_471 ?_
  refine n_iconst (v := 0) (by decide) eX12_init_473 ?_
  refine n_iconst (v := 0) (by decide) eX12_init_474 ?_
  refine n_iconst (v := 0) (by decide) eX12_init_475 ?_
  refine n_iconst (v := 0) (by decide) eX12_init_476 ?_
  refine b_callS (as := [.int 108, .int 101, .int 116, .int 0, .int 0, .int 0, .int 0]) (B := fun _ => True) (i_word 108 101 116 0 0 0 0 _ _ _) cs_X12_170 eX12_init_477 ⟨Nat.le_of_ble_eq_true rfl, Nat.le_of_ble_eq_true rfl⟩ ⟨Nat.le_of_ble_eq_true rfl, Nat.le_of_ble_eq_true rfl⟩ rfl rfl (Nat.le_of_ble_eq_true rfl) (fun _ _ _ _ h => h) (fun _ _ _ _ _ _ => trivial) ?_
  refine b_last (j := 2) rfl (Nat.le_of_ble_eq_true rfl) (Nat.le_of_ble_eq_true rfl) (by decide) (vp_in_nI (n := 2) (N := 6) (by decide) (by decide)) eX12_init_480 ?_
  refine n_ald0 eX12_init_481 ?_
  refine b_getR (ci := 11) (j := 8) rfl (Nat.le_of_ble_eq_true rfl) (Nat.le_of_ble_eq_true rfl) (by decide) (by decide) rfl rfl fl_X12_30 eX12_init_482 ?_
  refine n_iconst (v := 3) (by decide) eX12_init_485 ?_
  refine n_bipush (v := 111) (by decide) eX12_init_486 ?_
  refine n_bipush (v := 117) (by decide) eX12_init_488 ?_
  refine n_bipush (v := 116) (by decide) eX12_init_490 ?_
  refine n_iconst (v := 0) (by decide) eX12_init_492 ?_
  refine n_iconst (v := 0) (by decide) eX12_init_493 ?_
  refine n_iconst (v := 0) (by decide) eX12_init_494 ?_
  refine n_iconst (v := 0) (by decide) eX12_init_495 ?_
  refine b_callS (as := [.int 111, .int 117, .int 116, .int 0, .int 0, .int 0, .int 0]) (B := fun _ => True) (i_word 111 117 116 0 0 0 0 _ _ _) cs_X12_170 eX12_init_496 ⟨Nat.le_of_ble_eq_true rfl, Nat.le_of_ble_eq_true rfl⟩ ⟨Nat.le_of_ble_eq_true rfl, Nat.le_of_ble_eq_true rfl⟩ rfl rfl (Nat.le_of_ble_eq_true rfl) (fun _ _ _ _ h => h) (fun _ _ _ _ _ _ => trivial) ?_
  refine b_last (j := 3) rfl (Nat.le_of_ble_eq_true rfl) (Nat.le_of_ble_eq_true rfl) (by decide) (vp_in_nI (n := 3) (N := 6) (by decide) (by decide)) eX12_init_499 ?_
  refine n_ald0 eX12_init_500 ?_
  refine b_getR (ci := 11) (j := 8) rfl (Nat.le_of_ble_eq_true rfl) (Nat.le_of_ble_eq_true rfl) (by decide) (by decide) rfl rfl fl_X12_30 eX12_init_501 ?_
  refine n_iconst (v := 4) (by decide) eX12_init_504 ?_
  refine n_bipush (v := 99) (by decide) eX12_init_505 ?_
  refine n_bipush (v := 104) (by decide) eX12_init_507 ?_
  refine n_bipush (v := 111) (by decide) eX12_init_509 ?_
  refine n_bipush (v := 111) (by decide) eX12_init_511 ?_
  refine n_bipush (v := 115) (by decide) eX12_init_513 ?_
  refine n_bipush (v := 101) (by decide) eX12_init_515 ?_
  refine n_iconst (v := 0) (by decide) eX12_init_517 ?_
  refine b_callS (as := [.int 99, .int 104, .int 111, .int 111, .int 115, .int 101, .int 0]) (B := fun _ => True) (i_word 99 104 111 111 115 101 0 _ _ _) cs_X12_170 eX12_init_518 ⟨Nat.le_of_ble_eq_true rfl, Nat.le_of_ble_eq_true rfl⟩ ⟨Nat.le_of_ble_eq_true rfl, Nat.le_of_ble_eq_true rfl⟩ rfl rfl (Nat.le_of_ble_eq_true rfl) (fun _ _ _ _ h => h) (fun _ _ _ _ _ _ => trivial) ?_
  refine b_last (j := 4) rfl (Nat.le_of_ble_eq_true rfl) (Nat.le_of_ble_eq_true rfl) (by decide) (vp_in_nI (n := 4) (N := 6) (by decide) (by decide)) eX12_init_521 ?_
  refine n_ald0 eX12_init_522 ?_
  refine b_getR (ci := 11) (j := 8) rfl (Nat.le_of_ble_eq_true rfl) (Nat.le_of_ble_eq_true rfl) (by decide) (by decide) rfl rfl fl_X12_30 eX12_init_523 ?_
  refine n_iconst (v := 5) (by decide) eX12_init_526 ?_
  refine n_bipush (v := 97) (by decide) eX12_init_527 ?_
  refine n_bipush (v := 115) (by decide) eX12_init_529 ?_
  refine n_bipush (v := 107) (by decide) eX12_init_531 ?_
  refine n_iconst (v := 0) (by decide) eX12_init_533 ?_
  refine n_iconst (v := 0) (by decide) eX12_init_534 ?_
  refine n_iconst (v := 0) (by decide) eX12_init_535 ?_
  refine n_iconst (v := 0) (by decide) eX12_init_536 ?_
  refine b_callS (as := [.int 97, .int 115, .int 107, .int 0, .int 0, .int 0, .int 0]) (B := fun _ => True) (i_word 97 115 107 0 0 0 0 _ _ _) cs_X12_170 eX12_init_537 ⟨Nat.le_of_ble_eq_true rfl, Nat.le_of_ble_eq_true rfl⟩ ⟨Nat.le_of_ble_eq_true rfl, Nat.le_of_ble_eq_true rfl⟩ rfl rfl (Nat.le_of_ble_eq_true rfl) (fun _ _ _ _ h => h) (fun _ _ _ _ _ _ => trivial) ?_
  refine b_last (j := 5) rfl (Nat.le_of_ble_eq_true rfl) (Nat.le_of_ble_eq_true rfl) (by decide) (vp_in_nI (n := 5) (N := 6) (by decide) (by decide)) eX12_init_540 ?_
  refine n_ald0 eX12_init_541 ?_
  refine n_ild1 eX12_init_542 ?_
  refine n_iconst (v := 2) (by decide) eX12_init_543 ?_
  refine n_icmp_lt eX12_init_544 (fun h2 => ?_) (fun h2 => ?_)
  · rw [if_pos (Or.inl h2)] at htv
    subst htv
    refine n_iconst (v := 2) (by decide) eX12_init_553 ?_
    refine n_goto eX12_init_554 ?_
    exact k2
  · refine n_ild1 eX12_init_547 ?_
    refine n_bipush (v := 13) (by decide) eX12_init_548 ?_
    refine n_icmp_le eX12_init_550 (fun h3 => ?_) (fun h3 => ?_)
    · rw [if_neg (fun q => q.elim h2 (fun q => absurd h3 (Int32.not_le.mpr q)))] at htv
      subst htv
      refine n_ild1 eX12_init_557 ?_
      exact k2
    · rw [if_pos (Or.inr (Int32.not_le.mp h3))] at htv
      subst htv
      refine n_iconst (v := 2) (by decide) eX12_init_553 ?_
      refine n_goto eX12_init_554 ?_
      exact k2
end IM
