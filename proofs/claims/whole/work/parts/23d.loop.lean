/-! THE LAW: its loop (written by wip/tools/gen24.py) -/
section LOOP
variable {p : Program} {l : Launch} {e : Env} {s : State} {m : MethodId} {b : Nat} {below : List Frame} {meth : Method} {c : Code} {D : va_G} {cy : Nat → ClassId} {ad : Nat → Nat} {A : Nat → Prop} {Ls : Nat} {xs : Nat → Int32}
/-- what the case of sealed must give -/
def lc11 (p : Program) (l : Launch) (e : Env) (s : State) (m : MethodId) (b : Nat) (below : List Frame) (meth : Method) (c : Code) (D : va_G) (cy : Nat → ClassId) (ad : Nat → Nat) (A : Nat → Prop) (Ls : Nat) : Prop := ∀ (i kc ks : Nat) (x5 x6 : Option Value) (st : St), RelE st → i + 6 ≤ Ls → kc + 1 ≤ 601024 ∧ ks + 6 ≤ 7293000 → (∀ (y5 y6 : Option Value) (u : St), RelE u → GQ p l e room_1 s m #[Value.ref b] below meth c D cy ad A (cL_law, RL, 7, ret) (lw_Z below #[Value.ref b] s) (kc + 1) (ks + 6) (fun _ => True) 1585 [some (.ref 140), some (.ref 0), some (.ref 31), some (.ref 30), some (.int (nI i)), y5, y6] [] u) → GQ p l e room_1 s m #[Value.ref b] below meth c D cy ad A (cL_law, RL, 7, ret) (lw_Z below #[Value.ref b] s) kc ks (fun _ => True) 643 [some (.ref 140), some (.ref 0), some (.ref 31), some (.ref 30), some (.int (nI i)), x5, x6] [] st
theorem law_loop (hX : scrT s A ad Ls xs) (hA : ∀ q, A q → s.heap.size ≤ q) (h11 : lc11 p l e s m b below meth c D cy ad A Ls) : ∀ (f i kc ks : Nat) (x5 x6 : Option Value) (st : St), Ls ≤ i + 6 * f → i ≤ 3080 → RelE st → kc + f ≤ 601024 → ks + 6 * f ≤ 7293000 → GQ p l e room_1 s m #[Value.ref b] below meth c D cy ad A (cL_law, RL, 7, ret) (lw_Z below #[Value.ref b] s) kc ks (fun _ => True) 33 [some (.ref 140), some (.ref 0), some (.ref 31), some (.ref 30), some (.int (nI i)), x5, x6] [] st
  | f, i, kc, ks, x5, x6, st, hf, hi9, hR, hc, hs => by
    have hL := hX.2.2.2
    refine n_ild4 eL_law_33 ?_
    refine n_ald0 eL_law_35 ?_
    refine q_slen hX eL_law_36 ?_
    refine n_bipush (v := 6) (by decide) eL_law_37 ?_
    refine n_isub eL_law_39 ?_
    have e6 : (nI Ls - 6).toInt = (Ls : Int) - 6 := pk_sub_toInt (a := Ls) (b := 6) (by omega) (by omega)
    refine n_icmp_gt eL_law_40 (fun hb => ?_) (fun hb => ?_)
    · refine n_iconst (v := 1) (by decide) eL_law_1591 ?_
      exact q_end hA (by omega) (by omega) eL_law_1592
    rw [fa_lt, e6, nI_toInt (by omega)] at hb
    have hi : i + 6 ≤ Ls := by omega
    have hk : kc ≤ room_1.cells ∧ ks ≤ room_1.slots := ⟨by show kc ≤ 601024; omega, by show ks ≤ 7293000; omega⟩
    match f, hf, hc, hs with
    | 0, hf, _, _ => omega
    | f + 1, hf, hc, hs =>
    have kk : ∀ (kc2 ks2 : Nat) (y5 y6 : Option Value) (u : St), kc2 ≤ kc + 1 → ks2 ≤ ks + 6 → RelE u → GQ p l e room_1 s m #[Value.ref b] below meth c D cy ad A (cL_law, RL, 7, ret) (lw_Z below #[Value.ref b] s) kc2 ks2 (fun _ => True) 1585 [some (.ref 140), some (.ref 0), some (.ref 31), some (.ref 30), some (.int (nI i)), y5, y6] [] u := by
      intro kc2 ks2 y5 y6 u h1 h2 hu
      refine n_inc4 rfl (Nat.le_of_ble_eq_true rfl) rfl eL_law_1585 ?_
      rw [show nI i + Int32.ofInt 6 = nI (i + 6) from nI_add i 6]
      refine n_goto eL_law_1588 ?_
      exact law_loop hX hA h11 f (i + 6) kc2 ks2 y5 y6 u (by omega) (by omega) hu (by omega) (by omega)
    refine n_ald0 eL_law_43 ?_
    refine n_ild4 eL_law_44 ?_
    refine q_sld hX (vp_in_nI (by omega) (by omega)) eL_law_46 ?_
    rw [nI_clamp (by omega)]
    refine n_bipush (v := 63) (by decide) eL_law_47 ?_
    refine n_iand eL_law_49 ?_
    obtain ⟨j, hj, ej⟩ := pk_andE (xs i) (m := 63) 6 (by decide)
    rw [ej]
    have hjt : (nI j).toInt = (j : Int) := nI_toInt (by omega)
    by_cases e0 : j = 0
    · subst e0
      refine n_tableIn (off := 150) (tgt := 200) eL_law_50 (by omega) (by omega) (by rw [hjt]; rfl) (by decide) ?_
      exact lc_feed hR hX hi hk (fun u hu => kk kc ks x5 x6 u (by omega) (by omega) hu)
    by_cases e1 : j = 1
    · subst e1
      refine n_tableIn (off := 223) (tgt := 273) eL_law_50 (by omega) (by omega) (by rw [hjt]; rfl) (by decide) ?_
      exact lc_back hR hX hi hk (fun u hu => kk kc ks x5 x6 u (by omega) (by omega) hu)
    by_cases e2 : j = 2
    · subst e2
      refine n_tableIn (off := 248) (tgt := 298) eL_law_50 (by omega) (by omega) (by rw [hjt]; rfl) (by decide) ?_
      exact lc_read hR hX hi hk (fun u hu => kk kc ks x5 x6 u (by omega) (by omega) hu)
    by_cases e3 : j = 3
    · subst e3
      refine n_tableIn (off := 261) (tgt := 311) eL_law_50 (by omega) (by omega) (by rw [hjt]; rfl) (by decide) ?_
      exact lc_place hR hX hi hk (fun u hu => kk kc ks x5 x6 u (by omega) (by omega) hu)
    by_cases e4 : j = 4
    · subst e4
      refine n_tableIn (off := 274) (tgt := 324) eL_law_50 (by omega) (by omega) (by rw [hjt]; rfl) (by decide) ?_
      exact lc_lot hR hX hi hk (fun u hu => kk kc ks x5 x6 u (by omega) (by omega) hu)
    by_cases e5 : j = 5
    · subst e5
      refine n_tableIn (off := 323) (tgt := 373) eL_law_50 (by omega) (by omega) (by rw [hjt]; rfl) (by decide) ?_
      exact lc_key hR hX hi hk (fun u hu => kk kc ks x5 x6 u (by omega) (by omega) hu)
    by_cases e6 : j = 6
    · subst e6
      refine n_tableIn (off := 372) (tgt := 422) eL_law_50 (by omega) (by omega) (by rw [hjt]; rfl) (by decide) ?_
      exact lc_dead hR hX hi hk (fun u hu => kk kc ks x5 x6 u (by omega) (by omega) hu)
    by_cases e7 : j = 7
    · subst e7
      refine n_tableIn (off := 397) (tgt := 447) eL_law_50 (by omega) (by omega) (by rw [hjt]; rfl) (by decide) ?_
      exact lc_mask hR hX hi hk (fun u hu => kk kc ks x5 x6 u (by omega) (by omega) hu)
    by_cases e8 : j = 8
    · subst e8
      refine n_tableIn (off := 446) (tgt := 496) eL_law_50 (by omega) (by omega) (by rw [hjt]; rfl) (by decide) ?_
      exact lc_work hR hX hi hk (fun u hu => kk kc ks x5 x6 u (by omega) (by omega) hu)
    by_cases e9 : j = 9
    · subst e9
      refine n_tableIn (off := 495) (tgt := 545) eL_law_50 (by omega) (by omega) (by rw [hjt]; rfl) (by decide) ?_
      exact lc_plain hR hX hi hk (fun u hu => kk kc ks x5 x6 u (by omega) (by omega) hu)
    by_cases e10 : j = 10
    · subst e10
      refine n_tableIn (off := 544) (tgt := 594) eL_law_50 (by omega) (by omega) (by rw [hjt]; rfl) (by decide) ?_
      exact lc_anew hR hX hi hk (fun u hu => kk kc ks x5 x6 u (by omega) (by omega) hu)
    by_cases e11 : j = 11
    · subst e11
      refine n_tableIn (off := 593) (tgt := 643) eL_law_50 (by omega) (by omega) (by rw [hjt]; rfl) (by decide) ?_
      exact h11 i kc ks x5 x6 st hR hi ⟨by omega, by omega⟩ (fun y5 y6 u hu => kk (kc + 1) (ks + 6) y5 y6 u (by omega) (by omega) hu)
    by_cases e12 : j = 12
    · subst e12
      refine n_tableIn (off := 661) (tgt := 711) eL_law_50 (by omega) (by omega) (by rw [hjt]; rfl) (by decide) ?_
      exact lc_noise hR hX hi hk (fun u hu => kk kc ks x5 x6 u (by omega) (by omega) hu)
    by_cases e13 : j = 13
    · subst e13
      refine n_tableIn (off := 686) (tgt := 736) eL_law_50 (by omega) (by omega) (by rw [hjt]; rfl) (by decide) ?_
      exact lc_open hR hX hi hk (fun u hu => kk kc ks x5 x6 u (by omega) (by omega) hu)
    by_cases e14 : j = 14
    · subst e14
      refine n_tableIn (off := 711) (tgt := 761) eL_law_50 (by omega) (by omega) (by rw [hjt]; rfl) (by decide) ?_
      exact lc_budget hR hX hi hk (fun u hu => kk kc ks x5 x6 u (by omega) (by omega) hu)
    by_cases e15 : j = 15
    · subst e15
      refine n_tableIn (off := 736) (tgt := 786) eL_law_50 (by omega) (by omega) (by rw [hjt]; rfl) (by decide) ?_
      exact lc_opening hR hX hi hk (fun u hu => kk kc ks x5 x6 u (by omega) (by omega) hu)
    by_cases e16 : j = 16
    · subst e16
      refine n_tableIn (off := 785) (tgt := 835) eL_law_50 (by omega) (by omega) (by rw [hjt]; rfl) (by decide) ?_
      exact lc_works hR hX hi hk (fun u hu => kk kc ks x5 x6 u (by omega) (by omega) hu)
    by_cases e17 : j = 17
    · subst e17
      refine n_tableIn (off := 810) (tgt := 860) eL_law_50 (by omega) (by omega) (by rw [hjt]; rfl) (by decide) ?_
      exact lc_step hR hX hi hk (fun u hu => kk kc ks x5 x6 u (by omega) (by omega) hu)
    by_cases e18 : j = 18
    · subst e18
      refine n_tableIn (off := 859) (tgt := 909) eL_law_50 (by omega) (by omega) (by rw [hjt]; rfl) (by decide) ?_
      exact lc_outs hR hX hi hk (fun u hu => kk kc ks x5 x6 u (by omega) (by omega) hu)
    by_cases e19 : j = 19
    · subst e19
      refine n_tableIn (off := 896) (tgt := 946) eL_law_50 (by omega) (by omega) (by rw [hjt]; rfl) (by decide) ?_
      exact lc_cost hR hX hi hk (fun u hu => kk kc ks x5 x6 u (by omega) (by omega) hu)
    by_cases e20 : j = 20
    · subst e20
      refine n_tableIn (off := 933) (tgt := 983) eL_law_50 (by omega) (by omega) (by rw [hjt]; rfl) (by decide) ?_
      exact lc_holds hR hX hi hk (fun u hu => kk kc ks x5 x6 u (by omega) (by omega) hu)
    by_cases e21 : j = 21
    · subst e21
      refine n_tableIn (off := 982) (tgt := 1032) eL_law_50 (by omega) (by omega) (by rw [hjt]; rfl) (by decide) ?_
      exact lc_best hR hX hi hk (fun u hu => kk kc ks x5 x6 u (by omega) (by omega) hu)
    by_cases e22 : j = 22
    · subst e22
      refine n_tableIn (off := 1019) (tgt := 1069) eL_law_50 (by omega) (by omega) (by rw [hjt]; rfl) (by decide) ?_
      exact lc_given hR hX hi hk (fun u hu => kk kc ks x5 x6 u (by omega) (by omega) hu)
    by_cases e23 : j = 23
    · subst e23
      refine n_tableIn (off := 1056) (tgt := 1106) eL_law_50 (by omega) (by omega) (by rw [hjt]; rfl) (by decide) ?_
      exact lc_run hR hX hi hk (fun u hu => kk kc ks x5 x6 u (by omega) (by omega) hu)
    by_cases e24 : j = 24
    · subst e24
      refine n_tableIn (off := 1105) (tgt := 1155) eL_law_50 (by omega) (by omega) (by rw [hjt]; rfl) (by decide) ?_
      exact lc_openly hR hX hi hk (fun u hu => kk kc ks x5 x6 u (by omega) (by omega) hu)
    by_cases e25 : j = 25
    · subst e25
      refine n_tableIn (off := 1154) (tgt := 1204) eL_law_50 (by omega) (by omega) (by rw [hjt]; rfl) (by decide) ?_
      exact lc_differ hR hX hi hk (fun u hu => kk kc ks x5 x6 u (by omega) (by omega) hu)
    by_cases e26 : j = 26
    · subst e26
      refine n_tableIn (off := 1191) (tgt := 1241) eL_law_50 (by omega) (by omega) (by rw [hjt]; rfl) (by decide) ?_
      exact lc_checks hR hX hi hk (fun u hu => kk kc ks x5 x6 u (by omega) (by omega) hu)
    by_cases e27 : j = 27
    · subst e27
      refine n_tableIn (off := 1252) (tgt := 1302) eL_law_50 (by omega) (by omega) (by rw [hjt]; rfl) (by decide) ?_
      exact lc_parts hR hX hi hk (fun u hu => kk kc ks x5 x6 u (by omega) (by omega) hu)
    by_cases e28 : j = 28
    · subst e28
      refine n_tableIn (off := 1313) (tgt := 1363) eL_law_50 (by omega) (by omega) (by rw [hjt]; rfl) (by decide) ?_
      exact lc_part hR hX hi hk (fun u hu => kk kc ks x5 x6 u (by omega) (by omega) hu)
    by_cases e29 : j = 29
    · subst e29
      refine n_tableIn (off := 1350) (tgt := 1400) eL_law_50 (by omega) (by omega) (by rw [hjt]; rfl) (by decide) ?_
      exact lc_spoil hR hX hi hk (fun u hu => kk kc ks x5 x6 u (by omega) (by omega) hu)
    by_cases e30 : j = 30
    · subst e30
      refine n_tableIn (off := 1399) (tgt := 1449) eL_law_50 (by omega) (by omega) (by rw [hjt]; rfl) (by decide) ?_
      exact lc_joined hR hX hi hk (fun u hu => kk kc ks x5 x6 u (by omega) (by omega) hu)
    by_cases e31 : j = 31
    · subst e31
      refine n_tableIn (off := 1436) (tgt := 1486) eL_law_50 (by omega) (by omega) (by rw [hjt]; rfl) (by decide) ?_
      exact lc_who hR hX hi hk (fun u hu => kk kc ks x5 x6 u (by omega) (by omega) hu)
    by_cases e32 : j = 32
    · subst e32
      refine n_tableIn (off := 1461) (tgt := 1511) eL_law_50 (by omega) (by omega) (by rw [hjt]; rfl) (by decide) ?_
      exact lc_even hR hX hi hk (fun u hu => kk kc ks x5 x6 u (by omega) (by omega) hu)
    by_cases e33 : j = 33
    · subst e33
      refine n_tableIn (off := 1510) (tgt := 1560) eL_law_50 (by omega) (by omega) (by rw [hjt]; rfl) (by decide) ?_
      exact lc_count hR hX hi hk (fun u hu => kk kc ks x5 x6 u (by omega) (by omega) hu)
    refine n_tableOut (tgt := 1585) eL_law_50 (by omega) (by decide) ?_
    exact kk kc ks x5 x6 st (by omega) (by omega) hR
  termination_by f => f
  decreasing_by omega
end LOOP
