/-! THE LAW: its beginning -/
section BEG
variable {p : Program} {l : Launch} {e : Env} {s : State} {m : MethodId} {b : Nat} {below : List Frame} {meth : Method} {c : Code} {D : va_G} {cy : Nat → ClassId} {ad : Nat → Nat} {bs : Nat} {Ls : Nat} {xs : Nat → Int32}
def CB9 (ad : Nat → Nat) (bs Ls : Nat) (xs : Nat → Int32) (U : State) : Prop := va_X (ad 140) Ls xs U U.heap ∧ ad 140 < bs ∧ ad 140 < U.heap.size ∧ Ls ≤ 3073
def v0 (Ls : Nat) (xs : Nat → Int32) : Int32 := if 0 < Ls then xs 0 else 0
theorem n_sld {R : Room} {args : Array Value} {A : Nat → Prop} {I : MI} {Q : State → Prop} {kc ks pc n : Nat} {Hp : Heap → Prop} {L : List (Option Value)} {S : List Value} {w : va_W} {i : Int32} (hX : va_X (ad 140) Ls xs s s.heap) (hb : ad 140 < s.heap.size) (hA : ¬ A (ad 140)) (hin : vp_in i Ls) (hd : DD I.1 pc .iaload 1 n) (k : GN p l e R s m args below meth c D cy ad A I Q kc ks Hp n L (.int (xs i.toNatClampNeg) :: S) w) : GN p l e R s m args below meth c D cy ad A I Q kc ks Hp pc L (.int i :: .ref 140 :: S) w := by
  obtain ⟨h1, h2⟩ := hd
  subst h2
  exact fun h H locs ls hl hP hD hS hH => va_sld h.1 h.2.1 hX hb hA hS hin h1 (k h H locs ls hl hP hD hS hH)
theorem n_slen {R : Room} {args : Array Value} {A : Nat → Prop} {I : MI} {Q : State → Prop} {kc ks pc n : Nat} {Hp : Heap → Prop} {L : List (Option Value)} {S : List Value} {w : va_W} (hX : va_X (ad 140) Ls xs s s.heap) (hb : ad 140 < s.heap.size) (hA : ¬ A (ad 140)) (hd : DD I.1 pc .arraylength 1 n) (k : GN p l e R s m args below meth c D cy ad A I Q kc ks Hp n L (.int (nI Ls) :: S) w) : GN p l e R s m args below meth c D cy ad A I Q kc ks Hp pc L (.ref 140 :: S) w := by
  obtain ⟨h1, h2⟩ := hd
  subst h2
  exact fun h H locs ls hl hP hD hS hH => va_slen h.1 h.2.1 hX hb hA hS h1 (k h H locs ls hl hP hD hS hH)
theorem i_cell (na : Nat) (Lr : RL9) (st : St) : MB l D cy ad bs 0 0 0 YL_cell (CB9 ad bs Ls xs) [.ref 140, .int 0] na Lr st (some (.int (v0 Ls xs))) na Lr st := by
  refine MB.ofG [some (.ref 140), some (.int 0)] (by decide) (Nat.le_of_ble_eq_true rfl) rfl ?_
  intro p e s m args below meth c hin hB
  obtain ⟨hX, hb, hb2, hL⟩ := hB
  have hA : ¬ bs ≤ ad 140 := Nat.not_le.mpr hb
  refine n_ild1 eL_cell_0 ?_
  refine n_ald0 eL_cell_1 ?_
  refine n_slen hX hb2 hA eL_cell_2 ?_
  refine n_icmp_ge eL_cell_3 (fun h => ?_) (fun h => ?_)
  · have h0 : ¬ 0 < Ls := by
      rw [Int32.le_iff_toInt_le, nI_toInt (by omega)] at h
      have : (0 : Int32).toInt = 0 := rfl
      omega
    rw [show v0 Ls xs = 0 from if_neg h0]
    refine n_iconst (v := 0) (by decide) eL_cell_12 ?_
    exact b_iret rfl (Nat.le_of_ble_eq_true rfl) (Nat.le_of_ble_eq_true rfl) eL_cell_13
  · have h0 : 0 < Ls := by
      rw [Int32.le_iff_toInt_le, nI_toInt (by omega)] at h
      have : (0 : Int32).toInt = 0 := rfl
      omega
    rw [show v0 Ls xs = xs 0 from if_pos h0]
    refine n_ald0 eL_cell_6 ?_
    refine n_ild1 eL_cell_7 ?_
    refine n_sld hX hb2 hA (vp_in_nI (n := 0) (N := Ls) h0 (by omega)) eL_cell_8 ?_
    refine n_goto eL_cell_9 ?_
    exact b_iret (x := xs 0) rfl (Nat.le_of_ble_eq_true rfl) (Nat.le_of_ble_eq_true rfl) eL_cell_13
theorem law_begin (hl : l.stackTraces = false) (hX : scrT s (fun q => s.heap.size ≤ q) ad Ls xs) (hXS : XSp (fun q => s.heap.size ≤ q) s s.heap) (hB : NB s) : GB p l e room_1 s m #[Value.ref b] below meth c D cy ad s.heap.size (cL_law, RL, 7, ret) (lw_Z below #[Value.ref b] s) 0 0 0 [] 0 [some (.ref 140), none, none, none, none, none, none] [] z0 := by
  have hc : ∀ (a : Array Value) (U : State) (g : JFrame) (mk : MethodId), CB9 ad s.heap.size Ls xs U → CB9 ad s.heap.size Ls xs (U.calling g mk a) := fun a U g mk h => ⟨va_X.moved (u := U) (Vm.Alike.refl U.vm) h.1, h.2.1, h.2.2.1, h.2.2.2⟩
  have hcB : ∀ (U : State) (H : Heap) (locs : List Loc), va_S (fun q => s.heap.size ≤ q) s.heap H locs → U.heap = H → s.WarmedH U.vm → CB9 ad s.heap.size Ls xs U := fun U H locs hS hU hW => ⟨by rw [hU]; exact (hX.1.kept (hS.2.1 _ hX.2.1 hX.2.2.1)).moved hW.alike, hX.2.1, by rw [hU]; exact Nat.lt_of_lt_of_le hX.2.1 hS.1, hX.2.2.2⟩
  have r2 : ∀ {a b c d : Nat}, a.ble b = true → c.ble d = true → a ≤ b ∧ c ≤ d := fun h1 h2 => ⟨Nat.le_of_ble_eq_true h1, Nat.le_of_ble_eq_true h2⟩
  refine b_new (k := 0) (ci := 10) rfl (by decide) rfl wn_L_8 (r2 rfl rfl) eL_law_0 ?_
  refine n_dup rfl eL_law_3 ?_
  refine n_ald0 eL_law_4 ?_
  refine n_iconst (v := 0) (by decide) eL_law_5 ?_
  refine b_callS (S := [.ref 0, .ref 0]) (as := [.ref 140, .int 0]) (i_cell (Ls := Ls) (xs := xs) _ _ _) cs_L_17 eL_law_6 (r2 rfl rfl) (r2 rfl rfl) rfl rfl (Nat.le_of_ble_eq_true rfl) hc hcB ?_
  refine b_callI (S := [.ref 0]) (as := [.int (v0 Ls xs)]) (B := NB) (i_class _ _ rfl) ci_L_23 ⟨rfl, rfl⟩ eL_law_9 (r2 rfl rfl) (r2 rfl rfl) rfl rfl (Nat.le_of_ble_eq_true rfl) (fun _ _ _ _ h => h.call) (fun _ _ _ _ _ hW => hB.warm hW) ?_
  refine n_ast1 rfl (Nat.le_of_ble_eq_true rfl) eL_law_12 ?_
  refine b_new (k := 31) (ci := 11) rfl (by decide) rfl wn_L_26 (r2 rfl rfl) eL_law_13 ?_
  refine n_dup rfl eL_law_16 ?_
  refine n_ald0 eL_law_17 ?_
  refine n_iconst (v := 0) (by decide) eL_law_18 ?_
  refine b_callS (S := [.ref 31, .ref 31]) (as := [.ref 140, .int 0]) (i_cell (Ls := Ls) (xs := xs) _ _ _) cs_L_17 eL_law_19 (r2 rfl rfl) (r2 rfl rfl) rfl rfl (Nat.le_of_ble_eq_true rfl) hc hcB ?_
  refine b_callI (S := [.ref 31]) (as := [.int (v0 Ls xs)]) (B := NB) (i_model _ _ rfl _ _ (fun j => rfl)) ci_L_28 ⟨rfl, rfl⟩ eL_law_22 (r2 rfl rfl) (r2 rfl rfl) rfl rfl (Nat.le_of_ble_eq_true rfl) (fun _ _ _ _ h => h.call) (fun _ _ _ _ _ hW => hB.warm hW) ?_
  refine n_ast2 rfl (Nat.le_of_ble_eq_true rfl) eL_law_25 ?_
  refine n_iconst (v := 1) (by decide) eL_law_26 ?_
  refine b_newa (k := 30) (N := 1) (Or.inr (Or.inr (Or.inl rfl))) rfl rfl rfl wa_14 ⟨by decide, by decide⟩ (Nat.le_of_ble_eq_true rfl) (r2 rfl rfl) eL_law_27 ?_
  refine n_ast3 rfl (Nat.le_of_ble_eq_true rfl) eL_law_29 ?_
  refine n_iconst (v := 1) (by decide) eL_law_30 ?_
  refine n_ist4 rfl (Nat.le_of_ble_eq_true rfl) eL_law_31 ?_
  intro h H locs ls hls hP hD hS hH
  have hP2 : va_P D vwCl (gwr cy ad 115 LF (SF (if v0 Ls xs < 2 ∨ 13 < v0 Ls xs then 2 else v0 Ls xs))) H := hP
  have hD2 : va_D (fun q => s.heap.size ≤ q) (gwr cy ad 115 LF (SF (if v0 Ls xs < 2 ∨ 13 < v0 Ls xs then 2 else v0 Ls xs))) := hD
  obtain ⟨hP3, hD3⟩ := gw_full hP2 hD2
  have hL3 := hX.2.2.2
  have k9 := law_loop (p := p) (l := l) (e := e) (s := s) (m := m) (b := b) (below := below) (meth := meth) (c := c) (D := D) (cy := cy) hX (fun q hq => hq) (lc_sealed hl hXS hX) 513 1 115 15414 none none (SF (if v0 Ls xs < 2 ∨ 13 < v0 Ls xs then 2 else v0 Ls xs)) (by omega) (by omega) (rel_start (v0 Ls xs)) (by omega) (by omega)
  exact k9 h H locs ls hls hP3 hD3 hS True.intro
end BEG
