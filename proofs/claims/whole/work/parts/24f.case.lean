/-! THE LAW: the case of sealed -/
section C11
variable {p : Program} {l : Launch} {e : Env} {s : State} {m : MethodId} {b : Nat} {below : List Frame} {meth : Method} {c : Code} {D : va_G} {cy : Nat → ClassId} {ad : Nat → Nat} {A : Nat → Prop} {Ls : Nat} {xs : Nat → Int32}
theorem scr_out (st : St) (x : Int64) : scr st (sL st 30 0 x) := ⟨fun _ _ _ => rfl, fun a q => by rw [sL_row (by omega)]⟩
theorem lc_sealed (hl : l.stackTraces = false) (hXS : XSp A s s.heap) (hX : scrT s A ad Ls xs) : lc11 p l e s m b below meth c D cy ad A Ls := by
  intro i kc ks x5 x6 st hR hi hk kk
  obtain ⟨t, nk, n, np, nt, hR⟩ := hR
  refine n_ald1 eL_law_643 ?_
  refine q_arg (k := 1) (z := 1) (v := 1) hX (by omega) rfl (by decide) eL_law_644 eL_law_645 eL_law_647 eL_law_648 eL_law_649 ?_
  refine q_arg (k := 2) (z := 2) (v := 2) hX (by omega) rfl (by decide) eL_law_650 eL_law_651 eL_law_653 eL_law_654 eL_law_655 ?_
  refine n_ald3 eL_law_656 ?_
  intro h H locs ls hls hP hD hS _
  refine run_Gk (st := st) (rest := []) (vx_runSW (hh := hhS) (As := [.ref (ad 0), .int (xs (i + 1)), .int (xs (i + 2)), .ref (ad 30)]) (Ts := wsA) ⟨h.1, h.2.1, h.2.2.1, h.2.2.2.2.2.1, h.2.2.2.2.2.2.1⟩ (l_sealed (D := D) (cy := cy) hl hR (xs (i + 1)) (xs (i + 2)) ad H.size) (vx_cwSW 4 h.2.2.2.2.2.2.1 (fun w hw => good_wsA ?_) rfl rfl rfl (by decide +kernel) ⟨by decide, by decide⟩) ⟨pcx_blind, pcx_at h hXS hP hD hS⟩ rfl rfl hls.1 rfl (Nat.le_of_ble_eq_true rfl) eL_law_657.1 hk) hD hS h.2.2.2.2.2.2.2.2.1 (fun v u H1 locs1 hp hP1 hD1 hS1 => ?_)
  · unfold va_wsS at hw
    unfold wsT at hw
    simp only [List.mem_append, List.mem_cons, List.not_mem_nil, or_false] at hw
    rcases hw with (rfl | rfl | rfl) | rfl | hw
    · first | exact wT_2.1 | exact wT_2.2.1 | exact wT_2.2.2
    · first | exact wT_2.1 | exact wT_2.2.1 | exact wT_2.2.2
    · first | exact wT_2.1 | exact wT_2.2.1 | exact wT_2.2.2
    · exact wT_1
    · exact hw
  obtain ⟨r, rfl, hp⟩ := hp
  have hRu : Rel u t nk n np nt := by
    rcases hp with ⟨-, -, e⟩ | ⟨-, -, e⟩ | ⟨-, -, e⟩
    · rw [e]; exact hR.scr (scr_out _ _)
    · rw [e]; exact hR
    · rw [e]; exact hR
  have k2 : GQ p l e room_1 s m #[Value.ref b] below meth c D cy ad A (cL_law, RL, 7, ret) (lw_Z below #[Value.ref b] s) (kc + 1) (ks + 6) (fun _ => True) 660 [some (.ref 140), some (.ref 0), some (.ref 31), some (.ref 30), some (.int (nI i)), x5, x6] [.int r] u := by
    have hk2 : kc + 1 ≤ room_1.cells ∧ ks + 6 ≤ room_1.slots := hk
    refine n_ist5 rfl (Nat.le_of_ble_eq_true rfl) eL_law_660 ?_
    refine n_ald2 eL_law_662 ?_
    refine q_arg (k := 1) (z := 1) (v := 1) hX (by omega) rfl (by decide) eL_law_663 eL_law_664 eL_law_666 eL_law_667 eL_law_668 ?_
    refine q_arg (k := 2) (z := 2) (v := 2) hX (by omega) rfl (by decide) eL_law_669 eL_law_670 eL_law_672 eL_law_673 eL_law_674 ?_
    refine q_callVi (ci := 11) (as := [.int (xs (i + 1)), .int (xs (i + 2))]) (w_sealed u _ rfl hRu (agM_scr (scr_thr u 0)) (xs (i + 1)) (xs (i + 2))) rfl (Nat.le_of_ble_eq_true rfl) (Nat.le_of_ble_eq_true rfl) rfl cv_L_81 eL_law_675 (⟨Nat.le_of_ble_eq_true rfl, Nat.le_of_ble_eq_true rfl⟩) rfl rfl (Nat.le_of_ble_eq_true rfl) hk2 (fun r2 u2 h2 => ?_)
    refine n_ist6 rfl (Nat.le_of_ble_eq_true rfl) eL_law_678 ?_
    refine n_ald2 eL_law_680 ?_
    refine q_callVi (ci := 11) (as := []) (w_thrown u2) rfl (Nat.le_of_ble_eq_true rfl) (Nat.le_of_ble_eq_true rfl) rfl cv_L_82 eL_law_681 (⟨Nat.le_of_ble_eq_true rfl, Nat.le_of_ble_eq_true rfl⟩) rfl rfl (Nat.le_of_ble_eq_true rfl) hk2 (fun r3 u3 h3 => ?_)
    obtain ⟨e3, h3⟩ := h3
    rw [e3, h3]
    refine n_ild5 eL_law_684 ?_
    have fin : ∀ u9 : St, scr u u9 → ∀ y5 y6 : Option Value, GQ p l e room_1 s m #[Value.ref b] below meth c D cy ad A (cL_law, RL, 7, ret) (lw_Z below #[Value.ref b] s) (kc + 1) (ks + 6) (fun _ => True) 708 [some (.ref 140), some (.ref 0), some (.ref 31), some (.ref 30), some (.int (nI i)), y5, y6] [] u9 := by
      intro u9 hu y5 y6
      refine n_goto eL_law_708 ?_
      exact kk y5 y6 u9 ((hRu.scr hu).E)
    obtain ⟨q1, q2, q3⟩ := h2
    rcases hp with ⟨er, hs, eu⟩ | ⟨er, hs, eu⟩ | ⟨er, hs, eu⟩
    · obtain ⟨e2, v2⟩ := q3 hs.1 hs.2
      have hu2 : u2.1 31 18 = 0 := by rw [e2]; rfl
      rw [hu2, er]
      refine n_icmp_eq eL_law_686 (fun _ => ?_) (fun q => absurd rfl q)
      refine n_ild5 eL_law_691 ?_
      refine n_if_ne eL_law_693 (fun q => absurd rfl q) (fun _ => ?_)
      refine n_ald3 eL_law_696 ?_
      refine n_iconst (v := 0) (by decide) eL_law_697 ?_
      refine q_lald rfl (Nat.le_of_ble_eq_true rfl) (vp_in_nI (n := 0) (N := 1) (by decide) (by decide)) eL_law_698 ?_
      refine n_ild6 eL_law_699 ?_
      refine n_i2l eL_law_701 ?_
      have e0 : u2.2 30 (Int32.toNatClampNeg 0) = r2.toInt64 := by
        rw [e2, eu, v2]
        have : slV u (qI (xs (i + 1))) (xs (i + 2)) = slV st (qI (xs (i + 1))) (xs (i + 2)) := by rw [eu]; rfl
        rw [← eu, this, eu]
        rfl
      rw [e0]
      refine n_lcmp eL_law_702 ?_
      have e1 : lg_cmp r2.toInt64 r2.toInt64 = 0 := by simp [lg_cmp]
      rw [e1]
      refine n_if_eq eL_law_703 (fun _ => ?_) (fun q => absurd rfl q)
      exact fin u2 (by rw [e2]; exact scr_thr u 0) _ _
    · obtain ⟨e2, -⟩ := q1 hs
      have hu2 : u2.1 31 18 = 1 := by rw [e2]; rfl
      rw [hu2, er]
      refine n_icmp_eq eL_law_686 (fun _ => ?_) (fun q => absurd rfl q)
      refine n_ild5 eL_law_691 ?_
      refine n_if_ne eL_law_693 (fun _ => ?_) (fun q => absurd q (by decide))
      exact fin u2 (by rw [e2]; exact (scr_thr u 0).trans (scr_thr _ 1)) _ _
    · obtain ⟨e2, -⟩ := q2 hs.1 hs.2
      have hu2 : u2.1 31 18 = 2 := by rw [e2]; rfl
      rw [hu2, er]
      refine n_icmp_eq eL_law_686 (fun _ => ?_) (fun q => absurd rfl q)
      refine n_ild5 eL_law_691 ?_
      refine n_if_ne eL_law_693 (fun _ => ?_) (fun q => absurd q (by decide))
      exact fin u2 (by rw [e2]; exact (scr_thr u 0).trans (scr_thr _ 2)) _ _
  exact k2 h H1 locs1 ls hls hP1 hD1 hS1 True.intro
end C11
