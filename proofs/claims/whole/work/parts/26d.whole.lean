/-! THE WHOLE, from the entry -/
theorem whole_start {p : Program} {e : Env} {s : State} {m : MethodId} {below : List Frame} {meth : Method} {c : Code} (l : Launch) (hl : l.stackTraces = false) {b L : Nat} {xs : Nat → Int32} (hL : L ≤ 3073) (C0 : lw_At p s m meth c b L xs) : W p l e room_1 s m #[Value.ref b] below meth c s.heap [] 0 0 (lw_Z below #[Value.ref b] s) (entryFrame m ([Value.ref b] : List Value).toArray 7) := by
  obtain ⟨h1, h2, h3, h4, h5, hts, hX, hb, hlk, hg⟩ := C0
  obtain ⟨D, cy, hK⟩ := kn_start hts
  obtain ⟨t, fm, adK, adV, hE⟩ := ex_start hts hg
  have hXS := xs_start hts hg
  have e140 : adF s.heap.size t adK adV fm b 140 = b := rfl
  have hX2 : scrT s (fun q => s.heap.size ≤ q) (adF s.heap.size t adK adV fm b) L xs := ⟨by rw [e140]; exact hX, by rw [e140]; exact hb, by rw [e140]; exact Nat.not_le.mpr hb, hL⟩
  have hGH : GH p s m #[Value.ref b] meth c D cy (adF s.heap.size t adK adV fm b) (fun q => s.heap.size ≤ q) (cL_law, RL, 7, ret) := ⟨h1, h2, h4, h3, hlk, h5, fun w hw => hts w (List.mem_filter.mp hw).1, hK, fun q h => h, hE⟩
  have hl9 := lv_entry ([Value.ref b] : List Value) (n := 7) (Nat.le_of_ble_eq_true rfl)
  rw [lg_entry_eq]
  have k := law_begin (p := p) (e := e) (m := m) (b := b) (below := below) (meth := meth) (c := c) (D := D) (cy := cy) hl hX2 hXS (nb_start hts)
  refine k hGH s.heap [] _ hl9 (fun i q hi => ?_) ⟨fun i j p q hi _ _ => ?_, fun i q hi => ?_⟩ va_S.rf ⟨rfl, fun k hk => ?_, un_z0⟩
  · cases i <;> cases hi
  · cases i <;> cases hi
  · cases i <;> cases hi
  · unfold adF
    exact if_pos hk
