/-! the rows once more: over any end, any cells and slots used, any world (written by wip/tools/gen23.py out of 04, 05, 07a) -/
def GN (p : Program) (l : Launch) (e : Env) (R : Room) (s : State) (m : MethodId) (args : Array Value) (below : List Frame) (meth : Method) (c : Code) (D : va_G) (cy : Nat → ClassId) (ad : Nat → Nat) (A : Nat → Prop) (I : MI) (Q : State → Prop) (kc ks : Nat) (Hp : Heap → Prop) (pc : Nat) (L : List (Option Value)) (S : List Value) (st : va_W) : Prop :=
  GH p s m args meth c D cy ad A I → ∀ (H : Heap) (locs : List Loc) (ls : Array Slot), lv_has ls I.2.2.1 (pv ad 0 L) → va_P D vwCl st H → va_D A st → va_S A s.heap H locs → Hp H →
    W p l e R s m args below meth c H locs kc ks Q (F0 m pc ls (S.map (cv ad)))
abbrev GQ (p : Program) (l : Launch) (e : Env) (R : Room) (s : State) (m : MethodId) (args : Array Value) (below : List Frame) (meth : Method) (c : Code) (D : va_G) (cy : Nat → ClassId) (ad : Nat → Nat) (A : Nat → Prop) (I : MI) (Q : State → Prop) (kc ks : Nat) (Hp : Heap → Prop) (pc : Nat) (L : List (Option Value)) (S : List Value) (st : St) : Prop := GN p l e R s m args below meth c D cy ad A I Q kc ks Hp pc L S (cw cy ad st)
section NR
variable {p : Program} {l : Launch} {e : Env} {R : Room} {s : State} {m : MethodId} {args : Array Value} {below : List Frame} {meth : Method} {c : Code} {D : va_G} {cy : Nat → ClassId} {ad : Nat → Nat} {A : Nat → Prop} {I : MI} {Q : State → Prop} {kc ks : Nat} {Hp : Heap → Prop} {pc n : Nat} {L : List (Option Value)} {S : List Value} {st : va_W}
theorem n_iconst {z : Int} {v : Int32} (hv : Int32.ofInt z = v) (hd : DD I.1 pc (.iconst z) 1 n) (k : GN p l e R s m args below meth c D cy ad A I Q kc ks Hp n L (.int v :: S) st) : GN p l e R s m args below meth c D cy ad A I Q kc ks Hp pc L (S) st := by
  obtain ⟨h1, h2⟩ := hd
  subst h2
  exact fun h H locs ls hl hP hD hS hH => lv_iconst h.1 h.2.1 h1 hv (k h H locs ls hl hP hD hS hH)
theorem n_bipush {z : Int} {v : Int32} (hv : (Int8.ofInt z).toInt32 = v) (hd : DD I.1 pc (.bipush z) 2 n) (k : GN p l e R s m args below meth c D cy ad A I Q kc ks Hp n L (.int v :: S) st) : GN p l e R s m args below meth c D cy ad A I Q kc ks Hp pc L (S) st := by
  obtain ⟨h1, h2⟩ := hd
  subst h2
  exact fun h H locs ls hl hP hD hS hH => lv_bipush h.1 h.2.1 h1 hv (k h H locs ls hl hP hD hS hH)
theorem n_sipush {z : Int} {v : Int32} (hv : (Int16.ofInt z).toInt32 = v) (hd : DD I.1 pc (.sipush z) 3 n) (k : GN p l e R s m args below meth c D cy ad A I Q kc ks Hp n L (.int v :: S) st) : GN p l e R s m args below meth c D cy ad A I Q kc ks Hp pc L (S) st := by
  obtain ⟨h1, h2⟩ := hd
  subst h2
  exact fun h H locs ls hl hP hD hS hH => lv_sipush h.1 h.2.1 h1 hv (k h H locs ls hl hP hD hS hH)
theorem n_lconst {z : Fin 2} {v : Int64} (hv : Int64.ofNat (z : Nat) = v) (hd : DD I.1 pc (.lconst z) 1 n) (k : GN p l e R s m args below meth c D cy ad A I Q kc ks Hp n L (.long v :: S) st) : GN p l e R s m args below meth c D cy ad A I Q kc ks Hp pc L (S) st := by
  obtain ⟨h1, h2⟩ := hd
  subst h2
  exact fun h H locs ls hl hP hD hS hH => lv_lconst h.1 h.2.1 h1 hv (k h H locs ls hl hP hD hS hH)
theorem n_iload_n {k4 : Fin 4} {x : Int32} (hi : L[(k4 : Nat)]? = some (some (.int x))) (hd : DD I.1 pc (.iload_n k4) 1 n) (k : GN p l e R s m args below meth c D cy ad A I Q kc ks Hp n L (.int x :: S) st) : GN p l e R s m args below meth c D cy ad A I Q kc ks Hp pc L (S) st := by
  obtain ⟨h1, h2⟩ := hd
  subst h2
  exact fun h H locs ls hl hP hD hS hH => lv_iload_n h.1 h.2.1 h1 rfl (pv_at hl hi) (k h H locs ls hl hP hD hS hH)
theorem n_iload {i : Nat} {x : Int32} (hi : L[i]? = some (some (.int x))) (hd : DD I.1 pc (.iload i) 2 n) (k : GN p l e R s m args below meth c D cy ad A I Q kc ks Hp n L (.int x :: S) st) : GN p l e R s m args below meth c D cy ad A I Q kc ks Hp pc L (S) st := by
  obtain ⟨h1, h2⟩ := hd
  subst h2
  exact fun h H locs ls hl hP hD hS hH => lv_iload h.1 h.2.1 h1 (pv_at hl hi) (k h H locs ls hl hP hD hS hH)
theorem n_lload_n {k4 : Fin 4} {x : Int64} (hi : L[(k4 : Nat)]? = some (some (.long x))) (hd : DD I.1 pc (.lload_n k4) 1 n) (k : GN p l e R s m args below meth c D cy ad A I Q kc ks Hp n L (.long x :: S) st) : GN p l e R s m args below meth c D cy ad A I Q kc ks Hp pc L (S) st := by
  obtain ⟨h1, h2⟩ := hd
  subst h2
  exact fun h H locs ls hl hP hD hS hH => lv_lload_n h.1 h.2.1 h1 rfl (pv_at hl hi) (k h H locs ls hl hP hD hS hH)
theorem n_lload {i : Nat} {x : Int64} (hi : L[i]? = some (some (.long x))) (hd : DD I.1 pc (.lload i) 2 n) (k : GN p l e R s m args below meth c D cy ad A I Q kc ks Hp n L (.long x :: S) st) : GN p l e R s m args below meth c D cy ad A I Q kc ks Hp pc L (S) st := by
  obtain ⟨h1, h2⟩ := hd
  subst h2
  exact fun h H locs ls hl hP hD hS hH => lv_lload h.1 h.2.1 h1 (pv_at hl hi) (k h H locs ls hl hP hD hS hH)
theorem n_aload_n {k4 : Fin 4} {x : Nat} (hi : L[(k4 : Nat)]? = some (some (.ref x))) (hd : DD I.1 pc (.aload_n k4) 1 n) (k : GN p l e R s m args below meth c D cy ad A I Q kc ks Hp n L (.ref x :: S) st) : GN p l e R s m args below meth c D cy ad A I Q kc ks Hp pc L (S) st := by
  obtain ⟨h1, h2⟩ := hd
  subst h2
  exact fun h H locs ls hl hP hD hS hH => lv_aload_n h.1 h.2.1 h1 rfl (pv_at hl hi) (k h H locs ls hl hP hD hS hH)
theorem n_aload {i : Nat} {x : Nat} (hi : L[i]? = some (some (.ref x))) (hd : DD I.1 pc (.aload i) 2 n) (k : GN p l e R s m args below meth c D cy ad A I Q kc ks Hp n L (.ref x :: S) st) : GN p l e R s m args below meth c D cy ad A I Q kc ks Hp pc L (S) st := by
  obtain ⟨h1, h2⟩ := hd
  subst h2
  exact fun h H locs ls hl hP hD hS hH => lv_aload h.1 h.2.1 h1 (pv_at hl hi) (k h H locs ls hl hP hD hS hH)
theorem n_istore_n {k4 : Fin 4} {x : Int32} {L2 : List (Option Value)} (hb : nlb L (k4 : Nat) = true) (hn : (k4 : Nat) < I.2.2.1) (hL : L.set (k4 : Nat) (some (.int x)) = L2) (hd : DD I.1 pc (.istore_n k4) 1 n) (k : GN p l e R s m args below meth c D cy ad A I Q kc ks Hp n L2 S st) : GN p l e R s m args below meth c D cy ad A I Q kc ks Hp pc L (.int x :: S) st := by
  obtain ⟨h1, h2⟩ := hd
  subst h2
  subst hL
  exact fun h H locs ls hl hP hD hS hH => lv_istore_n h.1 h.2.1 h1 rfl hl hn rfl (fun ls2 hl2 => k h H locs ls2 (lv_more hl2 (pv_set1 hb)) hP hD hS hH)
theorem n_istore {i : Nat} {x : Int32} {L2 : List (Option Value)} (hb : nlb L i = true) (hn : i < I.2.2.1) (hL : L.set i (some (.int x)) = L2) (hd : DD I.1 pc (.istore i) 2 n) (k : GN p l e R s m args below meth c D cy ad A I Q kc ks Hp n L2 S st) : GN p l e R s m args below meth c D cy ad A I Q kc ks Hp pc L (.int x :: S) st := by
  obtain ⟨h1, h2⟩ := hd
  subst h2
  subst hL
  exact fun h H locs ls hl hP hD hS hH => lv_istore h.1 h.2.1 h1 hl hn rfl (fun ls2 hl2 => k h H locs ls2 (lv_more hl2 (pv_set1 hb)) hP hD hS hH)
theorem n_lstore_n {k4 : Fin 4} {x : Int64} {L2 : List (Option Value)} (hb : nlb L (k4 : Nat) = true) (hn : (k4 : Nat) + 1 < I.2.2.1) (h2n : L[(k4 : Nat) + 1]? = some none) (hL : L.set (k4 : Nat) (some (.long x)) = L2) (hd : DD I.1 pc (.lstore_n k4) 1 n) (k : GN p l e R s m args below meth c D cy ad A I Q kc ks Hp n L2 S st) : GN p l e R s m args below meth c D cy ad A I Q kc ks Hp pc L (.long x :: S) st := by
  obtain ⟨h1, h2⟩ := hd
  subst h2
  subst hL
  exact fun h H locs ls hl hP hD hS hH => lv_lstore_n h.1 h.2.1 h1 rfl hl hn rfl (fun ls2 hl2 => k h H locs ls2 (lv_more hl2 (pv_set2 hb h2n)) hP hD hS hH)
theorem n_lstore {i : Nat} {x : Int64} {L2 : List (Option Value)} (hb : nlb L i = true) (hn : i + 1 < I.2.2.1) (h2n : L[i + 1]? = some none) (hL : L.set i (some (.long x)) = L2) (hd : DD I.1 pc (.lstore i) 2 n) (k : GN p l e R s m args below meth c D cy ad A I Q kc ks Hp n L2 S st) : GN p l e R s m args below meth c D cy ad A I Q kc ks Hp pc L (.long x :: S) st := by
  obtain ⟨h1, h2⟩ := hd
  subst h2
  subst hL
  exact fun h H locs ls hl hP hD hS hH => lv_lstore h.1 h.2.1 h1 hl hn rfl (fun ls2 hl2 => k h H locs ls2 (lv_more hl2 (pv_set2 hb h2n)) hP hD hS hH)
theorem n_astore_n {k4 : Fin 4} {x : Nat} {L2 : List (Option Value)} (hb : nlb L (k4 : Nat) = true) (hn : (k4 : Nat) < I.2.2.1) (hL : L.set (k4 : Nat) (some (.ref x)) = L2) (hd : DD I.1 pc (.astore_n k4) 1 n) (k : GN p l e R s m args below meth c D cy ad A I Q kc ks Hp n L2 S st) : GN p l e R s m args below meth c D cy ad A I Q kc ks Hp pc L (.ref x :: S) st := by
  obtain ⟨h1, h2⟩ := hd
  subst h2
  subst hL
  exact fun h H locs ls hl hP hD hS hH => lv_astore_n h.1 h.2.1 h1 rfl hl hn rfl (fun ls2 hl2 => k h H locs ls2 (lv_more hl2 (pv_set1 hb)) hP hD hS hH)
theorem n_astore {i : Nat} {x : Nat} {L2 : List (Option Value)} (hb : nlb L i = true) (hn : i < I.2.2.1) (hL : L.set i (some (.ref x)) = L2) (hd : DD I.1 pc (.astore i) 2 n) (k : GN p l e R s m args below meth c D cy ad A I Q kc ks Hp n L2 S st) : GN p l e R s m args below meth c D cy ad A I Q kc ks Hp pc L (.ref x :: S) st := by
  obtain ⟨h1, h2⟩ := hd
  subst h2
  subst hL
  exact fun h H locs ls hl hP hD hS hH => lv_astore h.1 h.2.1 h1 hl hn rfl (fun ls2 hl2 => k h H locs ls2 (lv_more hl2 (pv_set1 hb)) hP hD hS hH)
theorem n_iinc {i : Nat} {z : Int} {x v : Int32} {L2 : List (Option Value)} (hb : nlb L i = true) (hn : i < I.2.2.1) (hi : L[i]? = some (some (.int x))) (hv : x + Int32.ofInt z = v) (hL : L.set i (some (.int v)) = L2) (hd : DD I.1 pc (.iinc i z) 3 n) (k : GN p l e R s m args below meth c D cy ad A I Q kc ks Hp n L2 S st) : GN p l e R s m args below meth c D cy ad A I Q kc ks Hp pc L S st := by
  obtain ⟨h1, h2⟩ := hd
  subst h2
  subst hL
  intro h H locs ls hl hP hD hS hH
  have hm : (i, Value.int x) ∈ pv ad 0 L := pv_in.mpr ⟨i, _, hi, by simp [cv]⟩
  obtain ⟨k9, hk9⟩ := List.getElem?_of_mem hm
  exact lv_iinc h.1 h.2.1 h1 hl hk9 hv hn rfl (fun ls2 hl2 => k h H locs ls2 (lv_more hl2 (pv_set1 hb)) hP hD hS hH)
theorem n_iadd {x y : Int32} (hd : DD I.1 pc .iadd 1 n) (k : GN p l e R s m args below meth c D cy ad A I Q kc ks Hp n L (.int (x + y) :: S) st) : GN p l e R s m args below meth c D cy ad A I Q kc ks Hp pc L (.int y :: .int x :: S) st := by
  obtain ⟨h1, h2⟩ := hd
  subst h2
  exact fun h H locs ls hl hP hD hS hH => lv_iadd h.1 h.2.1 h1 (k h H locs ls hl hP hD hS hH)
theorem n_isub {x y : Int32} (hd : DD I.1 pc .isub 1 n) (k : GN p l e R s m args below meth c D cy ad A I Q kc ks Hp n L (.int (x - y) :: S) st) : GN p l e R s m args below meth c D cy ad A I Q kc ks Hp pc L (.int y :: .int x :: S) st := by
  obtain ⟨h1, h2⟩ := hd
  subst h2
  exact fun h H locs ls hl hP hD hS hH => lv_isub h.1 h.2.1 h1 (k h H locs ls hl hP hD hS hH)
theorem n_imul {x y : Int32} (hd : DD I.1 pc .imul 1 n) (k : GN p l e R s m args below meth c D cy ad A I Q kc ks Hp n L (.int (x * y) :: S) st) : GN p l e R s m args below meth c D cy ad A I Q kc ks Hp pc L (.int y :: .int x :: S) st := by
  obtain ⟨h1, h2⟩ := hd
  subst h2
  exact fun h H locs ls hl hP hD hS hH => lv_imul h.1 h.2.1 h1 (k h H locs ls hl hP hD hS hH)
theorem n_iand {x y : Int32} (hd : DD I.1 pc .iand 1 n) (k : GN p l e R s m args below meth c D cy ad A I Q kc ks Hp n L (.int (x &&& y) :: S) st) : GN p l e R s m args below meth c D cy ad A I Q kc ks Hp pc L (.int y :: .int x :: S) st := by
  obtain ⟨h1, h2⟩ := hd
  subst h2
  exact fun h H locs ls hl hP hD hS hH => lv_iand h.1 h.2.1 h1 (k h H locs ls hl hP hD hS hH)
theorem n_ior {x y : Int32} (hd : DD I.1 pc .ior 1 n) (k : GN p l e R s m args below meth c D cy ad A I Q kc ks Hp n L (.int (x ||| y) :: S) st) : GN p l e R s m args below meth c D cy ad A I Q kc ks Hp pc L (.int y :: .int x :: S) st := by
  obtain ⟨h1, h2⟩ := hd
  subst h2
  exact fun h H locs ls hl hP hD hS hH => lv_ior h.1 h.2.1 h1 (k h H locs ls hl hP hD hS hH)
theorem n_ixor {x y : Int32} (hd : DD I.1 pc .ixor 1 n) (k : GN p l e R s m args below meth c D cy ad A I Q kc ks Hp n L (.int (x ^^^ y) :: S) st) : GN p l e R s m args below meth c D cy ad A I Q kc ks Hp pc L (.int y :: .int x :: S) st := by
  obtain ⟨h1, h2⟩ := hd
  subst h2
  exact fun h H locs ls hl hP hD hS hH => lv_ixor h.1 h.2.1 h1 (k h H locs ls hl hP hD hS hH)
theorem n_ishl {x y : Int32} (hd : DD I.1 pc .ishl 1 n) (k : GN p l e R s m args below meth c D cy ad A I Q kc ks Hp n L (.int (x <<< (y &&& 31)) :: S) st) : GN p l e R s m args below meth c D cy ad A I Q kc ks Hp pc L (.int y :: .int x :: S) st := by
  obtain ⟨h1, h2⟩ := hd
  subst h2
  exact fun h H locs ls hl hP hD hS hH => lv_ishl h.1 h.2.1 h1 (k h H locs ls hl hP hD hS hH)
theorem n_ishr {x y : Int32} (hd : DD I.1 pc .ishr 1 n) (k : GN p l e R s m args below meth c D cy ad A I Q kc ks Hp n L (.int (x >>> (y &&& 31)) :: S) st) : GN p l e R s m args below meth c D cy ad A I Q kc ks Hp pc L (.int y :: .int x :: S) st := by
  obtain ⟨h1, h2⟩ := hd
  subst h2
  exact fun h H locs ls hl hP hD hS hH => lv_ishr h.1 h.2.1 h1 (k h H locs ls hl hP hD hS hH)
theorem n_ladd {x y : Int64} (hd : DD I.1 pc .ladd 1 n) (k : GN p l e R s m args below meth c D cy ad A I Q kc ks Hp n L (.long (x + y) :: S) st) : GN p l e R s m args below meth c D cy ad A I Q kc ks Hp pc L (.long y :: .long x :: S) st := by
  obtain ⟨h1, h2⟩ := hd
  subst h2
  exact fun h H locs ls hl hP hD hS hH => lv_ladd h.1 h.2.1 h1 (k h H locs ls hl hP hD hS hH)
theorem n_lsub {x y : Int64} (hd : DD I.1 pc .lsub 1 n) (k : GN p l e R s m args below meth c D cy ad A I Q kc ks Hp n L (.long (x - y) :: S) st) : GN p l e R s m args below meth c D cy ad A I Q kc ks Hp pc L (.long y :: .long x :: S) st := by
  obtain ⟨h1, h2⟩ := hd
  subst h2
  exact fun h H locs ls hl hP hD hS hH => lv_lsub h.1 h.2.1 h1 (k h H locs ls hl hP hD hS hH)
theorem n_lmul {x y : Int64} (hd : DD I.1 pc .lmul 1 n) (k : GN p l e R s m args below meth c D cy ad A I Q kc ks Hp n L (.long (x * y) :: S) st) : GN p l e R s m args below meth c D cy ad A I Q kc ks Hp pc L (.long y :: .long x :: S) st := by
  obtain ⟨h1, h2⟩ := hd
  subst h2
  exact fun h H locs ls hl hP hD hS hH => lv_lmul h.1 h.2.1 h1 (k h H locs ls hl hP hD hS hH)
theorem n_iushr {x y : Int32} (hd : DD I.1 pc .iushr 1 n) (k : GN p l e R s m args below meth c D cy ad A I Q kc ks Hp n L (.int ((x.toUInt32 >>> (y.toUInt32 &&& Int32.toUInt32 31)).toInt32) :: S) st) : GN p l e R s m args below meth c D cy ad A I Q kc ks Hp pc L (.int y :: .int x :: S) st := by
  obtain ⟨h1, h2⟩ := hd
  subst h2
  exact fun h H locs ls hl hP hD hS hH => lv_iushr h.1 h.2.1 h1 rfl (k h H locs ls hl hP hD hS hH)
theorem n_idiv {x y : Int32} (hne : ¬ y = 0) (hd : DD I.1 pc .idiv 1 n) (k : GN p l e R s m args below meth c D cy ad A I Q kc ks Hp n L (.int (x / y) :: S) st) : GN p l e R s m args below meth c D cy ad A I Q kc ks Hp pc L (.int y :: .int x :: S) st := by
  obtain ⟨h1, h2⟩ := hd
  subst h2
  exact fun h H locs ls hl hP hD hS hH => lv_idiv h.1 h.2.1 h1 hne (k h H locs ls hl hP hD hS hH)
theorem n_irem {x y : Int32} (hne : ¬ y = 0) (hd : DD I.1 pc .irem 1 n) (k : GN p l e R s m args below meth c D cy ad A I Q kc ks Hp n L (.int (x - x / y * y) :: S) st) : GN p l e R s m args below meth c D cy ad A I Q kc ks Hp pc L (.int y :: .int x :: S) st := by
  obtain ⟨h1, h2⟩ := hd
  subst h2
  exact fun h H locs ls hl hP hD hS hH => lv_irem h.1 h.2.1 h1 hne (k h H locs ls hl hP hD hS hH)
theorem n_ldiv {x y : Int64} (hne : ¬ y = 0) (hd : DD I.1 pc .ldiv 1 n) (k : GN p l e R s m args below meth c D cy ad A I Q kc ks Hp n L (.long (x / y) :: S) st) : GN p l e R s m args below meth c D cy ad A I Q kc ks Hp pc L (.long y :: .long x :: S) st := by
  obtain ⟨h1, h2⟩ := hd
  subst h2
  exact fun h H locs ls hl hP hD hS hH => lv_ldiv h.1 h.2.1 h1 hne (k h H locs ls hl hP hD hS hH)
theorem n_lrem {x y : Int64} (hne : ¬ y = 0) (hd : DD I.1 pc .lrem 1 n) (k : GN p l e R s m args below meth c D cy ad A I Q kc ks Hp n L (.long (x - x / y * y) :: S) st) : GN p l e R s m args below meth c D cy ad A I Q kc ks Hp pc L (.long y :: .long x :: S) st := by
  obtain ⟨h1, h2⟩ := hd
  subst h2
  exact fun h H locs ls hl hP hD hS hH => lv_lrem h.1 h.2.1 h1 hne (k h H locs ls hl hP hD hS hH)
theorem n_ineg {x : Int32} (hd : DD I.1 pc .ineg 1 n) (k : GN p l e R s m args below meth c D cy ad A I Q kc ks Hp n L (.int (-x) :: S) st) : GN p l e R s m args below meth c D cy ad A I Q kc ks Hp pc L (.int x :: S) st := by
  obtain ⟨h1, h2⟩ := hd
  subst h2
  exact fun h H locs ls hl hP hD hS hH => lv_ineg h.1 h.2.1 h1 (k h H locs ls hl hP hD hS hH)
theorem n_lneg {x : Int64} (hd : DD I.1 pc .lneg 1 n) (k : GN p l e R s m args below meth c D cy ad A I Q kc ks Hp n L (.long (-x) :: S) st) : GN p l e R s m args below meth c D cy ad A I Q kc ks Hp pc L (.long x :: S) st := by
  obtain ⟨h1, h2⟩ := hd
  subst h2
  exact fun h H locs ls hl hP hD hS hH => lv_lneg h.1 h.2.1 h1 (k h H locs ls hl hP hD hS hH)
theorem n_i2l {x : Int32} (hd : DD I.1 pc .i2l 1 n) (k : GN p l e R s m args below meth c D cy ad A I Q kc ks Hp n L (.long x.toInt64 :: S) st) : GN p l e R s m args below meth c D cy ad A I Q kc ks Hp pc L (.int x :: S) st := by
  obtain ⟨h1, h2⟩ := hd
  subst h2
  exact fun h H locs ls hl hP hD hS hH => lv_i2l h.1 h.2.1 h1 rfl (k h H locs ls hl hP hD hS hH)
theorem n_l2i {x : Int64} (hd : DD I.1 pc .l2i 1 n) (k : GN p l e R s m args below meth c D cy ad A I Q kc ks Hp n L (.int x.toInt32 :: S) st) : GN p l e R s m args below meth c D cy ad A I Q kc ks Hp pc L (.long x :: S) st := by
  obtain ⟨h1, h2⟩ := hd
  subst h2
  exact fun h H locs ls hl hP hD hS hH => lv_l2i h.1 h.2.1 h1 rfl (k h H locs ls hl hP hD hS hH)
theorem n_i2b {x : Int32} (hd : DD I.1 pc .i2b 1 n) (k : GN p l e R s m args below meth c D cy ad A I Q kc ks Hp n L (.int x.toInt8.toInt32 :: S) st) : GN p l e R s m args below meth c D cy ad A I Q kc ks Hp pc L (.int x :: S) st := by
  obtain ⟨h1, h2⟩ := hd
  subst h2
  exact fun h H locs ls hl hP hD hS hH => lv_i2b h.1 h.2.1 h1 rfl (k h H locs ls hl hP hD hS hH)
theorem n_i2c {x : Int32} (hd : DD I.1 pc .i2c 1 n) (k : GN p l e R s m args below meth c D cy ad A I Q kc ks Hp n L (.int (x.toUInt32 % 65536).toInt32 :: S) st) : GN p l e R s m args below meth c D cy ad A I Q kc ks Hp pc L (.int x :: S) st := by
  obtain ⟨h1, h2⟩ := hd
  subst h2
  exact fun h H locs ls hl hP hD hS hH => lv_i2c h.1 h.2.1 h1 rfl (k h H locs ls hl hP hD hS hH)
theorem n_lcmp {x y : Int64} (hd : DD I.1 pc .lcmp 1 n) (k : GN p l e R s m args below meth c D cy ad A I Q kc ks Hp n L (.int (lg_cmp x y) :: S) st) : GN p l e R s m args below meth c D cy ad A I Q kc ks Hp pc L (.long y :: .long x :: S) st := by
  obtain ⟨h1, h2⟩ := hd
  subst h2
  exact fun h H locs ls hl hP hD hS hH => W.lcmp h.1 h.2.1 h1 (k h H locs ls hl hP hD hS hH)
theorem n_dup {v : Value} (hc : v.category = 1) (hd : DD I.1 pc .dup 1 n) (k : GN p l e R s m args below meth c D cy ad A I Q kc ks Hp n L (v :: v :: S) st) : GN p l e R s m args below meth c D cy ad A I Q kc ks Hp pc L (v :: S) st := by
  obtain ⟨h1, h2⟩ := hd
  subst h2
  exact fun h H locs ls hl hP hD hS hH => lv_dup h.1 h.2.1 h1 ((cv_cat ad v).trans hc) (k h H locs ls hl hP hD hS hH)
theorem n_pop {v : Value} (hc : v.category = 1) (hd : DD I.1 pc .pop 1 n) (k : GN p l e R s m args below meth c D cy ad A I Q kc ks Hp n L (S) st) : GN p l e R s m args below meth c D cy ad A I Q kc ks Hp pc L (v :: S) st := by
  obtain ⟨h1, h2⟩ := hd
  subst h2
  exact fun h H locs ls hl hP hD hS hH => lv_pop h.1 h.2.1 h1 ((cv_cat ad v).trans hc) (k h H locs ls hl hP hD hS hH)
theorem n_dup2 {v w : Value} (hc : v.category = 1) (hc2 : w.category = 1) (hd : DD I.1 pc .dup2 1 n) (k : GN p l e R s m args below meth c D cy ad A I Q kc ks Hp n L (v :: w :: v :: w :: S) st) : GN p l e R s m args below meth c D cy ad A I Q kc ks Hp pc L (v :: w :: S) st := by
  obtain ⟨h1, h2⟩ := hd
  subst h2
  exact fun h H locs ls hl hP hD hS hH => lv_dup2_11 h.1 h.2.1 h1 ((cv_cat ad v).trans hc) ((cv_cat ad w).trans hc2) (k h H locs ls hl hP hD hS hH)
theorem n_if_eq {x : Int32} {z : Int} {tgt : Nat} (hd : DB I.1 pc (.ifCond .eq z) z n tgt) (kt : x = 0 → GN p l e R s m args below meth c D cy ad A I Q kc ks Hp tgt L S st) (kf : ¬ x = 0 → GN p l e R s m args below meth c D cy ad A I Q kc ks Hp n L S st) : GN p l e R s m args below meth c D cy ad A I Q kc ks Hp pc L (.int x :: S) st := by
  obtain ⟨h1, h2, h3⟩ := hd
  subst h2
  exact fun h H locs ls hl hP hD hS hH => lv_if_eq h.1 h.2.1 h1 h3 (fun q => kt q h H locs ls hl hP hD hS hH) (fun q => kf q h H locs ls hl hP hD hS hH)
theorem n_icmp_eq {x y : Int32} {z : Int} {tgt : Nat} (hd : DB I.1 pc (.if_icmp .eq z) z n tgt) (kt : x = y → GN p l e R s m args below meth c D cy ad A I Q kc ks Hp tgt L S st) (kf : ¬ x = y → GN p l e R s m args below meth c D cy ad A I Q kc ks Hp n L S st) : GN p l e R s m args below meth c D cy ad A I Q kc ks Hp pc L (.int y :: .int x :: S) st := by
  obtain ⟨h1, h2, h3⟩ := hd
  subst h2
  exact fun h H locs ls hl hP hD hS hH => lv_icmp_eq h.1 h.2.1 h1 h3 (fun q => kt q h H locs ls hl hP hD hS hH) (fun q => kf q h H locs ls hl hP hD hS hH)
theorem n_if_ne {x : Int32} {z : Int} {tgt : Nat} (hd : DB I.1 pc (.ifCond .ne z) z n tgt) (kt : ¬ x = 0 → GN p l e R s m args below meth c D cy ad A I Q kc ks Hp tgt L S st) (kf : x = 0 → GN p l e R s m args below meth c D cy ad A I Q kc ks Hp n L S st) : GN p l e R s m args below meth c D cy ad A I Q kc ks Hp pc L (.int x :: S) st := by
  obtain ⟨h1, h2, h3⟩ := hd
  subst h2
  exact fun h H locs ls hl hP hD hS hH => lv_if_ne h.1 h.2.1 h1 h3 (fun q => kt q h H locs ls hl hP hD hS hH) (fun q => kf q h H locs ls hl hP hD hS hH)
theorem n_icmp_ne {x y : Int32} {z : Int} {tgt : Nat} (hd : DB I.1 pc (.if_icmp .ne z) z n tgt) (kt : ¬ x = y → GN p l e R s m args below meth c D cy ad A I Q kc ks Hp tgt L S st) (kf : x = y → GN p l e R s m args below meth c D cy ad A I Q kc ks Hp n L S st) : GN p l e R s m args below meth c D cy ad A I Q kc ks Hp pc L (.int y :: .int x :: S) st := by
  obtain ⟨h1, h2, h3⟩ := hd
  subst h2
  exact fun h H locs ls hl hP hD hS hH => lv_icmp_ne h.1 h.2.1 h1 h3 (fun q => kt q h H locs ls hl hP hD hS hH) (fun q => kf q h H locs ls hl hP hD hS hH)
theorem n_if_lt {x : Int32} {z : Int} {tgt : Nat} (hd : DB I.1 pc (.ifCond .lt z) z n tgt) (kt : x < 0 → GN p l e R s m args below meth c D cy ad A I Q kc ks Hp tgt L S st) (kf : ¬ x < 0 → GN p l e R s m args below meth c D cy ad A I Q kc ks Hp n L S st) : GN p l e R s m args below meth c D cy ad A I Q kc ks Hp pc L (.int x :: S) st := by
  obtain ⟨h1, h2, h3⟩ := hd
  subst h2
  exact fun h H locs ls hl hP hD hS hH => lv_if_lt h.1 h.2.1 h1 h3 (fun q => kt q h H locs ls hl hP hD hS hH) (fun q => kf q h H locs ls hl hP hD hS hH)
theorem n_icmp_lt {x y : Int32} {z : Int} {tgt : Nat} (hd : DB I.1 pc (.if_icmp .lt z) z n tgt) (kt : x < y → GN p l e R s m args below meth c D cy ad A I Q kc ks Hp tgt L S st) (kf : ¬ x < y → GN p l e R s m args below meth c D cy ad A I Q kc ks Hp n L S st) : GN p l e R s m args below meth c D cy ad A I Q kc ks Hp pc L (.int y :: .int x :: S) st := by
  obtain ⟨h1, h2, h3⟩ := hd
  subst h2
  exact fun h H locs ls hl hP hD hS hH => lv_icmp_lt h.1 h.2.1 h1 h3 (fun q => kt q h H locs ls hl hP hD hS hH) (fun q => kf q h H locs ls hl hP hD hS hH)
theorem n_if_ge {x : Int32} {z : Int} {tgt : Nat} (hd : DB I.1 pc (.ifCond .ge z) z n tgt) (kt : 0 ≤ x → GN p l e R s m args below meth c D cy ad A I Q kc ks Hp tgt L S st) (kf : ¬ 0 ≤ x → GN p l e R s m args below meth c D cy ad A I Q kc ks Hp n L S st) : GN p l e R s m args below meth c D cy ad A I Q kc ks Hp pc L (.int x :: S) st := by
  obtain ⟨h1, h2, h3⟩ := hd
  subst h2
  exact fun h H locs ls hl hP hD hS hH => lv_if_ge h.1 h.2.1 h1 h3 (fun q => kt q h H locs ls hl hP hD hS hH) (fun q => kf q h H locs ls hl hP hD hS hH)
theorem n_icmp_ge {x y : Int32} {z : Int} {tgt : Nat} (hd : DB I.1 pc (.if_icmp .ge z) z n tgt) (kt : y ≤ x → GN p l e R s m args below meth c D cy ad A I Q kc ks Hp tgt L S st) (kf : ¬ y ≤ x → GN p l e R s m args below meth c D cy ad A I Q kc ks Hp n L S st) : GN p l e R s m args below meth c D cy ad A I Q kc ks Hp pc L (.int y :: .int x :: S) st := by
  obtain ⟨h1, h2, h3⟩ := hd
  subst h2
  exact fun h H locs ls hl hP hD hS hH => lv_icmp_ge h.1 h.2.1 h1 h3 (fun q => kt q h H locs ls hl hP hD hS hH) (fun q => kf q h H locs ls hl hP hD hS hH)
theorem n_if_gt {x : Int32} {z : Int} {tgt : Nat} (hd : DB I.1 pc (.ifCond .gt z) z n tgt) (kt : 0 < x → GN p l e R s m args below meth c D cy ad A I Q kc ks Hp tgt L S st) (kf : ¬ 0 < x → GN p l e R s m args below meth c D cy ad A I Q kc ks Hp n L S st) : GN p l e R s m args below meth c D cy ad A I Q kc ks Hp pc L (.int x :: S) st := by
  obtain ⟨h1, h2, h3⟩ := hd
  subst h2
  exact fun h H locs ls hl hP hD hS hH => lv_if_gt h.1 h.2.1 h1 h3 (fun q => kt q h H locs ls hl hP hD hS hH) (fun q => kf q h H locs ls hl hP hD hS hH)
theorem n_icmp_gt {x y : Int32} {z : Int} {tgt : Nat} (hd : DB I.1 pc (.if_icmp .gt z) z n tgt) (kt : y < x → GN p l e R s m args below meth c D cy ad A I Q kc ks Hp tgt L S st) (kf : ¬ y < x → GN p l e R s m args below meth c D cy ad A I Q kc ks Hp n L S st) : GN p l e R s m args below meth c D cy ad A I Q kc ks Hp pc L (.int y :: .int x :: S) st := by
  obtain ⟨h1, h2, h3⟩ := hd
  subst h2
  exact fun h H locs ls hl hP hD hS hH => lv_icmp_gt h.1 h.2.1 h1 h3 (fun q => kt q h H locs ls hl hP hD hS hH) (fun q => kf q h H locs ls hl hP hD hS hH)
theorem n_if_le {x : Int32} {z : Int} {tgt : Nat} (hd : DB I.1 pc (.ifCond .le z) z n tgt) (kt : x ≤ 0 → GN p l e R s m args below meth c D cy ad A I Q kc ks Hp tgt L S st) (kf : ¬ x ≤ 0 → GN p l e R s m args below meth c D cy ad A I Q kc ks Hp n L S st) : GN p l e R s m args below meth c D cy ad A I Q kc ks Hp pc L (.int x :: S) st := by
  obtain ⟨h1, h2, h3⟩ := hd
  subst h2
  exact fun h H locs ls hl hP hD hS hH => lv_if_le h.1 h.2.1 h1 h3 (fun q => kt q h H locs ls hl hP hD hS hH) (fun q => kf q h H locs ls hl hP hD hS hH)
theorem n_icmp_le {x y : Int32} {z : Int} {tgt : Nat} (hd : DB I.1 pc (.if_icmp .le z) z n tgt) (kt : x ≤ y → GN p l e R s m args below meth c D cy ad A I Q kc ks Hp tgt L S st) (kf : ¬ x ≤ y → GN p l e R s m args below meth c D cy ad A I Q kc ks Hp n L S st) : GN p l e R s m args below meth c D cy ad A I Q kc ks Hp pc L (.int y :: .int x :: S) st := by
  obtain ⟨h1, h2, h3⟩ := hd
  subst h2
  exact fun h H locs ls hl hP hD hS hH => lv_icmp_le h.1 h.2.1 h1 h3 (fun q => kt q h H locs ls hl hP hD hS hH) (fun q => kf q h H locs ls hl hP hD hS hH)
theorem n_goto {z : Int} {tgt : Nat} (hd : DB I.1 pc (.goto z) z n tgt) (k : GN p l e R s m args below meth c D cy ad A I Q kc ks Hp tgt L S st) : GN p l e R s m args below meth c D cy ad A I Q kc ks Hp pc L S st := by
  obtain ⟨h1, h2, h3⟩ := hd
  exact fun h H locs ls hl hP hD hS hH => lv_goto h.1 h.2.1 h1 h3 (k h H locs ls hl hP hD hS hH)
theorem n_tableOut {z lo hi : Int} {offs : Array Int} {len tgt : Nat} {x : Int32} (hd : decode I.1 pc = .ok (.tableswitch z lo hi offs, len)) (hx : x.toInt < lo ∨ hi < x.toInt) (ht : (pc : Int) + z = (tgt : Int)) (k : GN p l e R s m args below meth c D cy ad A I Q kc ks Hp tgt L S st) : GN p l e R s m args below meth c D cy ad A I Q kc ks Hp pc L (.int x :: S) st :=
  fun h H locs ls hl hP hD hS hH => lv_tableOut h.1 h.2.1 hd hx ht (k h H locs ls hl hP hD hS hH)
theorem n_tableIn {z lo hi off : Int} {offs : Array Int} {len tgt : Nat} {x : Int32} (hd : decode I.1 pc = .ok (.tableswitch z lo hi offs, len)) (h1 : ¬ x.toInt < lo) (h2 : ¬ hi < x.toInt) (ho : offs[(x.toInt - lo).toNat]? = some off) (ht : (pc : Int) + off = (tgt : Int)) (k : GN p l e R s m args below meth c D cy ad A I Q kc ks Hp tgt L S st) : GN p l e R s m args below meth c D cy ad A I Q kc ks Hp pc L (.int x :: S) st :=
  fun h H locs ls hl hP hD hS hH => lv_tableIn h.1 h.2.1 hd h1 h2 ho ht (k h H locs ls hl hP hD hS hH)
theorem n_lookup {z off : Int} {ps : Array (Int × Int)} {len tgt : Nat} {x : Int32} (hd : decode I.1 pc = .ok (.lookupswitch z ps, len)) (hp : (ps.toList.zip (ps.toList.drop 1)).all (fun (a, next) => a.1 < next.1) = true) (ho : Op.lookupswitch.offset ps.toList z x.toInt = off) (ht : (pc : Int) + off = (tgt : Int)) (k : GN p l e R s m args below meth c D cy ad A I Q kc ks Hp tgt L S st) : GN p l e R s m args below meth c D cy ad A I Q kc ks Hp pc L (.int x :: S) st :=
  fun h H locs ls hl hP hD hS hH => lv_lookup h.1 h.2.1 hd hp ho ht (k h H locs ls hl hP hD hS hH)
variable {a0 a1 a2 a3 a4 a5 a6 a7 a8 a9 a10 a11 a12 a13 : Option Value}
theorem n_ild0 {x : Int32} (hd : DD I.1 pc (.iload_n 0) 1 n) (k : GN p l e R s m args below meth c D cy ad A I Q kc ks Hp n (some (.int x) :: L) (.int x :: S) st) : GN p l e R s m args below meth c D cy ad A I Q kc ks Hp pc (some (.int x) :: L) S st := n_iload_n rfl hd k
theorem n_ist0 {x : Int32} (hn : 0 < I.2.2.1) (hd : DD I.1 pc (.istore_n 0) 1 n) (k : GN p l e R s m args below meth c D cy ad A I Q kc ks Hp n (some (.int x) :: L) S st) : GN p l e R s m args below meth c D cy ad A I Q kc ks Hp pc (a0 :: L) (.int x :: S) st := n_istore_n rfl hn rfl hd k
theorem n_ild1 {x : Int32} (hd : DD I.1 pc (.iload_n 1) 1 n) (k : GN p l e R s m args below meth c D cy ad A I Q kc ks Hp n (a0 :: some (.int x) :: L) (.int x :: S) st) : GN p l e R s m args below meth c D cy ad A I Q kc ks Hp pc (a0 :: some (.int x) :: L) S st := n_iload_n rfl hd k
theorem n_ist1 {x : Int32} (hb : nl a0 = true) (hn : 1 < I.2.2.1) (hd : DD I.1 pc (.istore_n 1) 1 n) (k : GN p l e R s m args below meth c D cy ad A I Q kc ks Hp n (a0 :: some (.int x) :: L) S st) : GN p l e R s m args below meth c D cy ad A I Q kc ks Hp pc (a0 :: a1 :: L) (.int x :: S) st := n_istore_n (by cases a0 <;> first | rfl | exact hb) hn rfl hd k
theorem n_ild2 {x : Int32} (hd : DD I.1 pc (.iload_n 2) 1 n) (k : GN p l e R s m args below meth c D cy ad A I Q kc ks Hp n (a0 :: a1 :: some (.int x) :: L) (.int x :: S) st) : GN p l e R s m args below meth c D cy ad A I Q kc ks Hp pc (a0 :: a1 :: some (.int x) :: L) S st := n_iload_n rfl hd k
theorem n_ist2 {x : Int32} (hb : nl a1 = true) (hn : 2 < I.2.2.1) (hd : DD I.1 pc (.istore_n 2) 1 n) (k : GN p l e R s m args below meth c D cy ad A I Q kc ks Hp n (a0 :: a1 :: some (.int x) :: L) S st) : GN p l e R s m args below meth c D cy ad A I Q kc ks Hp pc (a0 :: a1 :: a2 :: L) (.int x :: S) st := n_istore_n (by cases a1 <;> first | rfl | exact hb) hn rfl hd k
theorem n_ild3 {x : Int32} (hd : DD I.1 pc (.iload_n 3) 1 n) (k : GN p l e R s m args below meth c D cy ad A I Q kc ks Hp n (a0 :: a1 :: a2 :: some (.int x) :: L) (.int x :: S) st) : GN p l e R s m args below meth c D cy ad A I Q kc ks Hp pc (a0 :: a1 :: a2 :: some (.int x) :: L) S st := n_iload_n rfl hd k
theorem n_ist3 {x : Int32} (hb : nl a2 = true) (hn : 3 < I.2.2.1) (hd : DD I.1 pc (.istore_n 3) 1 n) (k : GN p l e R s m args below meth c D cy ad A I Q kc ks Hp n (a0 :: a1 :: a2 :: some (.int x) :: L) S st) : GN p l e R s m args below meth c D cy ad A I Q kc ks Hp pc (a0 :: a1 :: a2 :: a3 :: L) (.int x :: S) st := n_istore_n (by cases a2 <;> first | rfl | exact hb) hn rfl hd k
theorem n_ild4 {x : Int32} (hd : DD I.1 pc (.iload 4) 2 n) (k : GN p l e R s m args below meth c D cy ad A I Q kc ks Hp n (a0 :: a1 :: a2 :: a3 :: some (.int x) :: L) (.int x :: S) st) : GN p l e R s m args below meth c D cy ad A I Q kc ks Hp pc (a0 :: a1 :: a2 :: a3 :: some (.int x) :: L) S st := n_iload rfl hd k
theorem n_ist4 {x : Int32} (hb : nl a3 = true) (hn : 4 < I.2.2.1) (hd : DD I.1 pc (.istore 4) 2 n) (k : GN p l e R s m args below meth c D cy ad A I Q kc ks Hp n (a0 :: a1 :: a2 :: a3 :: some (.int x) :: L) S st) : GN p l e R s m args below meth c D cy ad A I Q kc ks Hp pc (a0 :: a1 :: a2 :: a3 :: a4 :: L) (.int x :: S) st := n_istore (by cases a3 <;> first | rfl | exact hb) hn rfl hd k
theorem n_ild5 {x : Int32} (hd : DD I.1 pc (.iload 5) 2 n) (k : GN p l e R s m args below meth c D cy ad A I Q kc ks Hp n (a0 :: a1 :: a2 :: a3 :: a4 :: some (.int x) :: L) (.int x :: S) st) : GN p l e R s m args below meth c D cy ad A I Q kc ks Hp pc (a0 :: a1 :: a2 :: a3 :: a4 :: some (.int x) :: L) S st := n_iload rfl hd k
theorem n_ist5 {x : Int32} (hb : nl a4 = true) (hn : 5 < I.2.2.1) (hd : DD I.1 pc (.istore 5) 2 n) (k : GN p l e R s m args below meth c D cy ad A I Q kc ks Hp n (a0 :: a1 :: a2 :: a3 :: a4 :: some (.int x) :: L) S st) : GN p l e R s m args below meth c D cy ad A I Q kc ks Hp pc (a0 :: a1 :: a2 :: a3 :: a4 :: a5 :: L) (.int x :: S) st := n_istore (by cases a4 <;> first | rfl | exact hb) hn rfl hd k
theorem n_ild6 {x : Int32} (hd : DD I.1 pc (.iload 6) 2 n) (k : GN p l e R s m args below meth c D cy ad A I Q kc ks Hp n (a0 :: a1 :: a2 :: a3 :: a4 :: a5 :: some (.int x) :: L) (.int x :: S) st) : GN p l e R s m args below meth c D cy ad A I Q kc ks Hp pc (a0 :: a1 :: a2 :: a3 :: a4 :: a5 :: some (.int x) :: L) S st := n_iload rfl hd k
theorem n_ist6 {x : Int32} (hb : nl a5 = true) (hn : 6 < I.2.2.1) (hd : DD I.1 pc (.istore 6) 2 n) (k : GN p l e R s m args below meth c D cy ad A I Q kc ks Hp n (a0 :: a1 :: a2 :: a3 :: a4 :: a5 :: some (.int x) :: L) S st) : GN p l e R s m args below meth c D cy ad A I Q kc ks Hp pc (a0 :: a1 :: a2 :: a3 :: a4 :: a5 :: a6 :: L) (.int x :: S) st := n_istore (by cases a5 <;> first | rfl | exact hb) hn rfl hd k
theorem n_ild7 {x : Int32} (hd : DD I.1 pc (.iload 7) 2 n) (k : GN p l e R s m args below meth c D cy ad A I Q kc ks Hp n (a0 :: a1 :: a2 :: a3 :: a4 :: a5 :: a6 :: some (.int x) :: L) (.int x :: S) st) : GN p l e R s m args below meth c D cy ad A I Q kc ks Hp pc (a0 :: a1 :: a2 :: a3 :: a4 :: a5 :: a6 :: some (.int x) :: L) S st := n_iload rfl hd k
theorem n_ist7 {x : Int32} (hb : nl a6 = true) (hn : 7 < I.2.2.1) (hd : DD I.1 pc (.istore 7) 2 n) (k : GN p l e R s m args below meth c D cy ad A I Q kc ks Hp n (a0 :: a1 :: a2 :: a3 :: a4 :: a5 :: a6 :: some (.int x) :: L) S st) : GN p l e R s m args below meth c D cy ad A I Q kc ks Hp pc (a0 :: a1 :: a2 :: a3 :: a4 :: a5 :: a6 :: a7 :: L) (.int x :: S) st := n_istore (by cases a6 <;> first | rfl | exact hb) hn rfl hd k
theorem n_ild8 {x : Int32} (hd : DD I.1 pc (.iload 8) 2 n) (k : GN p l e R s m args below meth c D cy ad A I Q kc ks Hp n (a0 :: a1 :: a2 :: a3 :: a4 :: a5 :: a6 :: a7 :: some (.int x) :: L) (.int x :: S) st) : GN p l e R s m args below meth c D cy ad A I Q kc ks Hp pc (a0 :: a1 :: a2 :: a3 :: a4 :: a5 :: a6 :: a7 :: some (.int x) :: L) S st := n_iload rfl hd k
theorem n_ist8 {x : Int32} (hb : nl a7 = true) (hn : 8 < I.2.2.1) (hd : DD I.1 pc (.istore 8) 2 n) (k : GN p l e R s m args below meth c D cy ad A I Q kc ks Hp n (a0 :: a1 :: a2 :: a3 :: a4 :: a5 :: a6 :: a7 :: some (.int x) :: L) S st) : GN p l e R s m args below meth c D cy ad A I Q kc ks Hp pc (a0 :: a1 :: a2 :: a3 :: a4 :: a5 :: a6 :: a7 :: a8 :: L) (.int x :: S) st := n_istore (by cases a7 <;> first | rfl | exact hb) hn rfl hd k
theorem n_ild9 {x : Int32} (hd : DD I.1 pc (.iload 9) 2 n) (k : GN p l e R s m args below meth c D cy ad A I Q kc ks Hp n (a0 :: a1 :: a2 :: a3 :: a4 :: a5 :: a6 :: a7 :: a8 :: some (.int x) :: L) (.int x :: S) st) : GN p l e R s m args below meth c D cy ad A I Q kc ks Hp pc (a0 :: a1 :: a2 :: a3 :: a4 :: a5 :: a6 :: a7 :: a8 :: some (.int x) :: L) S st := n_iload rfl hd k
theorem n_ist9 {x : Int32} (hb : nl a8 = true) (hn : 9 < I.2.2.1) (hd : DD I.1 pc (.istore 9) 2 n) (k : GN p l e R s m args below meth c D cy ad A I Q kc ks Hp n (a0 :: a1 :: a2 :: a3 :: a4 :: a5 :: a6 :: a7 :: a8 :: some (.int x) :: L) S st) : GN p l e R s m args below meth c D cy ad A I Q kc ks Hp pc (a0 :: a1 :: a2 :: a3 :: a4 :: a5 :: a6 :: a7 :: a8 :: a9 :: L) (.int x :: S) st := n_istore (by cases a8 <;> first | rfl | exact hb) hn rfl hd k
theorem n_ild10 {x : Int32} (hd : DD I.1 pc (.iload 10) 2 n) (k : GN p l e R s m args below meth c D cy ad A I Q kc ks Hp n (a0 :: a1 :: a2 :: a3 :: a4 :: a5 :: a6 :: a7 :: a8 :: a9 :: some (.int x) :: L) (.int x :: S) st) : GN p l e R s m args below meth c D cy ad A I Q kc ks Hp pc (a0 :: a1 :: a2 :: a3 :: a4 :: a5 :: a6 :: a7 :: a8 :: a9 :: some (.int x) :: L) S st := n_iload rfl hd k
theorem n_ist10 {x : Int32} (hb : nl a9 = true) (hn : 10 < I.2.2.1) (hd : DD I.1 pc (.istore 10) 2 n) (k : GN p l e R s m args below meth c D cy ad A I Q kc ks Hp n (a0 :: a1 :: a2 :: a3 :: a4 :: a5 :: a6 :: a7 :: a8 :: a9 :: some (.int x) :: L) S st) : GN p l e R s m args below meth c D cy ad A I Q kc ks Hp pc (a0 :: a1 :: a2 :: a3 :: a4 :: a5 :: a6 :: a7 :: a8 :: a9 :: a10 :: L) (.int x :: S) st := n_istore (by cases a9 <;> first | rfl | exact hb) hn rfl hd k
theorem n_ild11 {x : Int32} (hd : DD I.1 pc (.iload 11) 2 n) (k : GN p l e R s m args below meth c D cy ad A I Q kc ks Hp n (a0 :: a1 :: a2 :: a3 :: a4 :: a5 :: a6 :: a7 :: a8 :: a9 :: a10 :: some (.int x) :: L) (.int x :: S) st) : GN p l e R s m args below meth c D cy ad A I Q kc ks Hp pc (a0 :: a1 :: a2 :: a3 :: a4 :: a5 :: a6 :: a7 :: a8 :: a9 :: a10 :: some (.int x) :: L) S st := n_iload rfl hd k
theorem n_ist11 {x : Int32} (hb : nl a10 = true) (hn : 11 < I.2.2.1) (hd : DD I.1 pc (.istore 11) 2 n) (k : GN p l e R s m args below meth c D cy ad A I Q kc ks Hp n (a0 :: a1 :: a2 :: a3 :: a4 :: a5 :: a6 :: a7 :: a8 :: a9 :: a10 :: some (.int x) :: L) S st) : GN p l e R s m args below meth c D cy ad A I Q kc ks Hp pc (a0 :: a1 :: a2 :: a3 :: a4 :: a5 :: a6 :: a7 :: a8 :: a9 :: a10 :: a11 :: L) (.int x :: S) st := n_istore (by cases a10 <;> first | rfl | exact hb) hn rfl hd k
theorem n_ild12 {x : Int32} (hd : DD I.1 pc (.iload 12) 2 n) (k : GN p l e R s m args below meth c D cy ad A I Q kc ks Hp n (a0 :: a1 :: a2 :: a3 :: a4 :: a5 :: a6 :: a7 :: a8 :: a9 :: a10 :: a11 :: some (.int x) :: L) (.int x :: S) st) : GN p l e R s m args below meth c D cy ad A I Q kc ks Hp pc (a0 :: a1 :: a2 :: a3 :: a4 :: a5 :: a6 :: a7 :: a8 :: a9 :: a10 :: a11 :: some (.int x) :: L) S st := n_iload rfl hd k
theorem n_ist12 {x : Int32} (hb : nl a11 = true) (hn : 12 < I.2.2.1) (hd : DD I.1 pc (.istore 12) 2 n) (k : GN p l e R s m args below meth c D cy ad A I Q kc ks Hp n (a0 :: a1 :: a2 :: a3 :: a4 :: a5 :: a6 :: a7 :: a8 :: a9 :: a10 :: a11 :: some (.int x) :: L) S st) : GN p l e R s m args below meth c D cy ad A I Q kc ks Hp pc (a0 :: a1 :: a2 :: a3 :: a4 :: a5 :: a6 :: a7 :: a8 :: a9 :: a10 :: a11 :: a12 :: L) (.int x :: S) st := n_istore (by cases a11 <;> first | rfl | exact hb) hn rfl hd k
theorem n_lld0 {x : Int64} (hd : DD I.1 pc (.lload_n 0) 1 n) (k : GN p l e R s m args below meth c D cy ad A I Q kc ks Hp n (some (.long x) :: L) (.long x :: S) st) : GN p l e R s m args below meth c D cy ad A I Q kc ks Hp pc (some (.long x) :: L) S st := n_lload_n rfl hd k
theorem n_lst0 {x : Int64} (hn : 1 < I.2.2.1) (hd : DD I.1 pc (.lstore_n 0) 1 n) (k : GN p l e R s m args below meth c D cy ad A I Q kc ks Hp n (some (.long x) :: none :: L) S st) : GN p l e R s m args below meth c D cy ad A I Q kc ks Hp pc (a0 :: none :: L) (.long x :: S) st := n_lstore_n rfl hn rfl rfl hd k
theorem n_lld1 {x : Int64} (hd : DD I.1 pc (.lload_n 1) 1 n) (k : GN p l e R s m args below meth c D cy ad A I Q kc ks Hp n (a0 :: some (.long x) :: L) (.long x :: S) st) : GN p l e R s m args below meth c D cy ad A I Q kc ks Hp pc (a0 :: some (.long x) :: L) S st := n_lload_n rfl hd k
theorem n_lst1 {x : Int64} (hb : nl a0 = true) (hn : 2 < I.2.2.1) (hd : DD I.1 pc (.lstore_n 1) 1 n) (k : GN p l e R s m args below meth c D cy ad A I Q kc ks Hp n (a0 :: some (.long x) :: none :: L) S st) : GN p l e R s m args below meth c D cy ad A I Q kc ks Hp pc (a0 :: a1 :: none :: L) (.long x :: S) st := n_lstore_n (by cases a0 <;> first | rfl | exact hb) hn rfl rfl hd k
theorem n_lld2 {x : Int64} (hd : DD I.1 pc (.lload_n 2) 1 n) (k : GN p l e R s m args below meth c D cy ad A I Q kc ks Hp n (a0 :: a1 :: some (.long x) :: L) (.long x :: S) st) : GN p l e R s m args below meth c D cy ad A I Q kc ks Hp pc (a0 :: a1 :: some (.long x) :: L) S st := n_lload_n rfl hd k
theorem n_lst2 {x : Int64} (hb : nl a1 = true) (hn : 3 < I.2.2.1) (hd : DD I.1 pc (.lstore_n 2) 1 n) (k : GN p l e R s m args below meth c D cy ad A I Q kc ks Hp n (a0 :: a1 :: some (.long x) :: none :: L) S st) : GN p l e R s m args below meth c D cy ad A I Q kc ks Hp pc (a0 :: a1 :: a2 :: none :: L) (.long x :: S) st := n_lstore_n (by cases a1 <;> first | rfl | exact hb) hn rfl rfl hd k
theorem n_lld3 {x : Int64} (hd : DD I.1 pc (.lload_n 3) 1 n) (k : GN p l e R s m args below meth c D cy ad A I Q kc ks Hp n (a0 :: a1 :: a2 :: some (.long x) :: L) (.long x :: S) st) : GN p l e R s m args below meth c D cy ad A I Q kc ks Hp pc (a0 :: a1 :: a2 :: some (.long x) :: L) S st := n_lload_n rfl hd k
theorem n_lst3 {x : Int64} (hb : nl a2 = true) (hn : 4 < I.2.2.1) (hd : DD I.1 pc (.lstore_n 3) 1 n) (k : GN p l e R s m args below meth c D cy ad A I Q kc ks Hp n (a0 :: a1 :: a2 :: some (.long x) :: none :: L) S st) : GN p l e R s m args below meth c D cy ad A I Q kc ks Hp pc (a0 :: a1 :: a2 :: a3 :: none :: L) (.long x :: S) st := n_lstore_n (by cases a2 <;> first | rfl | exact hb) hn rfl rfl hd k
theorem n_lld4 {x : Int64} (hd : DD I.1 pc (.lload 4) 2 n) (k : GN p l e R s m args below meth c D cy ad A I Q kc ks Hp n (a0 :: a1 :: a2 :: a3 :: some (.long x) :: L) (.long x :: S) st) : GN p l e R s m args below meth c D cy ad A I Q kc ks Hp pc (a0 :: a1 :: a2 :: a3 :: some (.long x) :: L) S st := n_lload rfl hd k
theorem n_lst4 {x : Int64} (hb : nl a3 = true) (hn : 5 < I.2.2.1) (hd : DD I.1 pc (.lstore 4) 2 n) (k : GN p l e R s m args below meth c D cy ad A I Q kc ks Hp n (a0 :: a1 :: a2 :: a3 :: some (.long x) :: none :: L) S st) : GN p l e R s m args below meth c D cy ad A I Q kc ks Hp pc (a0 :: a1 :: a2 :: a3 :: a4 :: none :: L) (.long x :: S) st := n_lstore (by cases a3 <;> first | rfl | exact hb) hn rfl rfl hd k
theorem n_lld5 {x : Int64} (hd : DD I.1 pc (.lload 5) 2 n) (k : GN p l e R s m args below meth c D cy ad A I Q kc ks Hp n (a0 :: a1 :: a2 :: a3 :: a4 :: some (.long x) :: L) (.long x :: S) st) : GN p l e R s m args below meth c D cy ad A I Q kc ks Hp pc (a0 :: a1 :: a2 :: a3 :: a4 :: some (.long x) :: L) S st := n_lload rfl hd k
theorem n_lst5 {x : Int64} (hb : nl a4 = true) (hn : 6 < I.2.2.1) (hd : DD I.1 pc (.lstore 5) 2 n) (k : GN p l e R s m args below meth c D cy ad A I Q kc ks Hp n (a0 :: a1 :: a2 :: a3 :: a4 :: some (.long x) :: none :: L) S st) : GN p l e R s m args below meth c D cy ad A I Q kc ks Hp pc (a0 :: a1 :: a2 :: a3 :: a4 :: a5 :: none :: L) (.long x :: S) st := n_lstore (by cases a4 <;> first | rfl | exact hb) hn rfl rfl hd k
theorem n_lld6 {x : Int64} (hd : DD I.1 pc (.lload 6) 2 n) (k : GN p l e R s m args below meth c D cy ad A I Q kc ks Hp n (a0 :: a1 :: a2 :: a3 :: a4 :: a5 :: some (.long x) :: L) (.long x :: S) st) : GN p l e R s m args below meth c D cy ad A I Q kc ks Hp pc (a0 :: a1 :: a2 :: a3 :: a4 :: a5 :: some (.long x) :: L) S st := n_lload rfl hd k
theorem n_lst6 {x : Int64} (hb : nl a5 = true) (hn : 7 < I.2.2.1) (hd : DD I.1 pc (.lstore 6) 2 n) (k : GN p l e R s m args below meth c D cy ad A I Q kc ks Hp n (a0 :: a1 :: a2 :: a3 :: a4 :: a5 :: some (.long x) :: none :: L) S st) : GN p l e R s m args below meth c D cy ad A I Q kc ks Hp pc (a0 :: a1 :: a2 :: a3 :: a4 :: a5 :: a6 :: none :: L) (.long x :: S) st := n_lstore (by cases a5 <;> first | rfl | exact hb) hn rfl rfl hd k
theorem n_lld7 {x : Int64} (hd : DD I.1 pc (.lload 7) 2 n) (k : GN p l e R s m args below meth c D cy ad A I Q kc ks Hp n (a0 :: a1 :: a2 :: a3 :: a4 :: a5 :: a6 :: some (.long x) :: L) (.long x :: S) st) : GN p l e R s m args below meth c D cy ad A I Q kc ks Hp pc (a0 :: a1 :: a2 :: a3 :: a4 :: a5 :: a6 :: some (.long x) :: L) S st := n_lload rfl hd k
theorem n_lst7 {x : Int64} (hb : nl a6 = true) (hn : 8 < I.2.2.1) (hd : DD I.1 pc (.lstore 7) 2 n) (k : GN p l e R s m args below meth c D cy ad A I Q kc ks Hp n (a0 :: a1 :: a2 :: a3 :: a4 :: a5 :: a6 :: some (.long x) :: none :: L) S st) : GN p l e R s m args below meth c D cy ad A I Q kc ks Hp pc (a0 :: a1 :: a2 :: a3 :: a4 :: a5 :: a6 :: a7 :: none :: L) (.long x :: S) st := n_lstore (by cases a6 <;> first | rfl | exact hb) hn rfl rfl hd k
theorem n_lld8 {x : Int64} (hd : DD I.1 pc (.lload 8) 2 n) (k : GN p l e R s m args below meth c D cy ad A I Q kc ks Hp n (a0 :: a1 :: a2 :: a3 :: a4 :: a5 :: a6 :: a7 :: some (.long x) :: L) (.long x :: S) st) : GN p l e R s m args below meth c D cy ad A I Q kc ks Hp pc (a0 :: a1 :: a2 :: a3 :: a4 :: a5 :: a6 :: a7 :: some (.long x) :: L) S st := n_lload rfl hd k
theorem n_lst8 {x : Int64} (hb : nl a7 = true) (hn : 9 < I.2.2.1) (hd : DD I.1 pc (.lstore 8) 2 n) (k : GN p l e R s m args below meth c D cy ad A I Q kc ks Hp n (a0 :: a1 :: a2 :: a3 :: a4 :: a5 :: a6 :: a7 :: some (.long x) :: none :: L) S st) : GN p l e R s m args below meth c D cy ad A I Q kc ks Hp pc (a0 :: a1 :: a2 :: a3 :: a4 :: a5 :: a6 :: a7 :: a8 :: none :: L) (.long x :: S) st := n_lstore (by cases a7 <;> first | rfl | exact hb) hn rfl rfl hd k
theorem n_lld9 {x : Int64} (hd : DD I.1 pc (.lload 9) 2 n) (k : GN p l e R s m args below meth c D cy ad A I Q kc ks Hp n (a0 :: a1 :: a2 :: a3 :: a4 :: a5 :: a6 :: a7 :: a8 :: some (.long x) :: L) (.long x :: S) st) : GN p l e R s m args below meth c D cy ad A I Q kc ks Hp pc (a0 :: a1 :: a2 :: a3 :: a4 :: a5 :: a6 :: a7 :: a8 :: some (.long x) :: L) S st := n_lload rfl hd k
theorem n_lst9 {x : Int64} (hb : nl a8 = true) (hn : 10 < I.2.2.1) (hd : DD I.1 pc (.lstore 9) 2 n) (k : GN p l e R s m args below meth c D cy ad A I Q kc ks Hp n (a0 :: a1 :: a2 :: a3 :: a4 :: a5 :: a6 :: a7 :: a8 :: some (.long x) :: none :: L) S st) : GN p l e R s m args below meth c D cy ad A I Q kc ks Hp pc (a0 :: a1 :: a2 :: a3 :: a4 :: a5 :: a6 :: a7 :: a8 :: a9 :: none :: L) (.long x :: S) st := n_lstore (by cases a8 <;> first | rfl | exact hb) hn rfl rfl hd k
theorem n_lld10 {x : Int64} (hd : DD I.1 pc (.lload 10) 2 n) (k : GN p l e R s m args below meth c D cy ad A I Q kc ks Hp n (a0 :: a1 :: a2 :: a3 :: a4 :: a5 :: a6 :: a7 :: a8 :: a9 :: some (.long x) :: L) (.long x :: S) st) : GN p l e R s m args below meth c D cy ad A I Q kc ks Hp pc (a0 :: a1 :: a2 :: a3 :: a4 :: a5 :: a6 :: a7 :: a8 :: a9 :: some (.long x) :: L) S st := n_lload rfl hd k
theorem n_lst10 {x : Int64} (hb : nl a9 = true) (hn : 11 < I.2.2.1) (hd : DD I.1 pc (.lstore 10) 2 n) (k : GN p l e R s m args below meth c D cy ad A I Q kc ks Hp n (a0 :: a1 :: a2 :: a3 :: a4 :: a5 :: a6 :: a7 :: a8 :: a9 :: some (.long x) :: none :: L) S st) : GN p l e R s m args below meth c D cy ad A I Q kc ks Hp pc (a0 :: a1 :: a2 :: a3 :: a4 :: a5 :: a6 :: a7 :: a8 :: a9 :: a10 :: none :: L) (.long x :: S) st := n_lstore (by cases a9 <;> first | rfl | exact hb) hn rfl rfl hd k
theorem n_lld11 {x : Int64} (hd : DD I.1 pc (.lload 11) 2 n) (k : GN p l e R s m args below meth c D cy ad A I Q kc ks Hp n (a0 :: a1 :: a2 :: a3 :: a4 :: a5 :: a6 :: a7 :: a8 :: a9 :: a10 :: some (.long x) :: L) (.long x :: S) st) : GN p l e R s m args below meth c D cy ad A I Q kc ks Hp pc (a0 :: a1 :: a2 :: a3 :: a4 :: a5 :: a6 :: a7 :: a8 :: a9 :: a10 :: some (.long x) :: L) S st := n_lload rfl hd k
theorem n_lst11 {x : Int64} (hb : nl a10 = true) (hn : 12 < I.2.2.1) (hd : DD I.1 pc (.lstore 11) 2 n) (k : GN p l e R s m args below meth c D cy ad A I Q kc ks Hp n (a0 :: a1 :: a2 :: a3 :: a4 :: a5 :: a6 :: a7 :: a8 :: a9 :: a10 :: some (.long x) :: none :: L) S st) : GN p l e R s m args below meth c D cy ad A I Q kc ks Hp pc (a0 :: a1 :: a2 :: a3 :: a4 :: a5 :: a6 :: a7 :: a8 :: a9 :: a10 :: a11 :: none :: L) (.long x :: S) st := n_lstore (by cases a10 <;> first | rfl | exact hb) hn rfl rfl hd k
theorem n_lld12 {x : Int64} (hd : DD I.1 pc (.lload 12) 2 n) (k : GN p l e R s m args below meth c D cy ad A I Q kc ks Hp n (a0 :: a1 :: a2 :: a3 :: a4 :: a5 :: a6 :: a7 :: a8 :: a9 :: a10 :: a11 :: some (.long x) :: L) (.long x :: S) st) : GN p l e R s m args below meth c D cy ad A I Q kc ks Hp pc (a0 :: a1 :: a2 :: a3 :: a4 :: a5 :: a6 :: a7 :: a8 :: a9 :: a10 :: a11 :: some (.long x) :: L) S st := n_lload rfl hd k
theorem n_ald0 {x : Nat} (hd : DD I.1 pc (.aload_n 0) 1 n) (k : GN p l e R s m args below meth c D cy ad A I Q kc ks Hp n (some (.ref x) :: L) (.ref x :: S) st) : GN p l e R s m args below meth c D cy ad A I Q kc ks Hp pc (some (.ref x) :: L) S st := n_aload_n rfl hd k
theorem n_ast0 {x : Nat} (hn : 0 < I.2.2.1) (hd : DD I.1 pc (.astore_n 0) 1 n) (k : GN p l e R s m args below meth c D cy ad A I Q kc ks Hp n (some (.ref x) :: L) S st) : GN p l e R s m args below meth c D cy ad A I Q kc ks Hp pc (a0 :: L) (.ref x :: S) st := n_astore_n rfl hn rfl hd k
theorem n_ald1 {x : Nat} (hd : DD I.1 pc (.aload_n 1) 1 n) (k : GN p l e R s m args below meth c D cy ad A I Q kc ks Hp n (a0 :: some (.ref x) :: L) (.ref x :: S) st) : GN p l e R s m args below meth c D cy ad A I Q kc ks Hp pc (a0 :: some (.ref x) :: L) S st := n_aload_n rfl hd k
theorem n_ast1 {x : Nat} (hb : nl a0 = true) (hn : 1 < I.2.2.1) (hd : DD I.1 pc (.astore_n 1) 1 n) (k : GN p l e R s m args below meth c D cy ad A I Q kc ks Hp n (a0 :: some (.ref x) :: L) S st) : GN p l e R s m args below meth c D cy ad A I Q kc ks Hp pc (a0 :: a1 :: L) (.ref x :: S) st := n_astore_n (by cases a0 <;> first | rfl | exact hb) hn rfl hd k
theorem n_ald2 {x : Nat} (hd : DD I.1 pc (.aload_n 2) 1 n) (k : GN p l e R s m args below meth c D cy ad A I Q kc ks Hp n (a0 :: a1 :: some (.ref x) :: L) (.ref x :: S) st) : GN p l e R s m args below meth c D cy ad A I Q kc ks Hp pc (a0 :: a1 :: some (.ref x) :: L) S st := n_aload_n rfl hd k
theorem n_ast2 {x : Nat} (hb : nl a1 = true) (hn : 2 < I.2.2.1) (hd : DD I.1 pc (.astore_n 2) 1 n) (k : GN p l e R s m args below meth c D cy ad A I Q kc ks Hp n (a0 :: a1 :: some (.ref x) :: L) S st) : GN p l e R s m args below meth c D cy ad A I Q kc ks Hp pc (a0 :: a1 :: a2 :: L) (.ref x :: S) st := n_astore_n (by cases a1 <;> first | rfl | exact hb) hn rfl hd k
theorem n_ald3 {x : Nat} (hd : DD I.1 pc (.aload_n 3) 1 n) (k : GN p l e R s m args below meth c D cy ad A I Q kc ks Hp n (a0 :: a1 :: a2 :: some (.ref x) :: L) (.ref x :: S) st) : GN p l e R s m args below meth c D cy ad A I Q kc ks Hp pc (a0 :: a1 :: a2 :: some (.ref x) :: L) S st := n_aload_n rfl hd k
theorem n_ast3 {x : Nat} (hb : nl a2 = true) (hn : 3 < I.2.2.1) (hd : DD I.1 pc (.astore_n 3) 1 n) (k : GN p l e R s m args below meth c D cy ad A I Q kc ks Hp n (a0 :: a1 :: a2 :: some (.ref x) :: L) S st) : GN p l e R s m args below meth c D cy ad A I Q kc ks Hp pc (a0 :: a1 :: a2 :: a3 :: L) (.ref x :: S) st := n_astore_n (by cases a2 <;> first | rfl | exact hb) hn rfl hd k
theorem n_ald4 {x : Nat} (hd : DD I.1 pc (.aload 4) 2 n) (k : GN p l e R s m args below meth c D cy ad A I Q kc ks Hp n (a0 :: a1 :: a2 :: a3 :: some (.ref x) :: L) (.ref x :: S) st) : GN p l e R s m args below meth c D cy ad A I Q kc ks Hp pc (a0 :: a1 :: a2 :: a3 :: some (.ref x) :: L) S st := n_aload rfl hd k
theorem n_ast4 {x : Nat} (hb : nl a3 = true) (hn : 4 < I.2.2.1) (hd : DD I.1 pc (.astore 4) 2 n) (k : GN p l e R s m args below meth c D cy ad A I Q kc ks Hp n (a0 :: a1 :: a2 :: a3 :: some (.ref x) :: L) S st) : GN p l e R s m args below meth c D cy ad A I Q kc ks Hp pc (a0 :: a1 :: a2 :: a3 :: a4 :: L) (.ref x :: S) st := n_astore (by cases a3 <;> first | rfl | exact hb) hn rfl hd k
theorem n_ald5 {x : Nat} (hd : DD I.1 pc (.aload 5) 2 n) (k : GN p l e R s m args below meth c D cy ad A I Q kc ks Hp n (a0 :: a1 :: a2 :: a3 :: a4 :: some (.ref x) :: L) (.ref x :: S) st) : GN p l e R s m args below meth c D cy ad A I Q kc ks Hp pc (a0 :: a1 :: a2 :: a3 :: a4 :: some (.ref x) :: L) S st := n_aload rfl hd k
theorem n_ast5 {x : Nat} (hb : nl a4 = true) (hn : 5 < I.2.2.1) (hd : DD I.1 pc (.astore 5) 2 n) (k : GN p l e R s m args below meth c D cy ad A I Q kc ks Hp n (a0 :: a1 :: a2 :: a3 :: a4 :: some (.ref x) :: L) S st) : GN p l e R s m args below meth c D cy ad A I Q kc ks Hp pc (a0 :: a1 :: a2 :: a3 :: a4 :: a5 :: L) (.ref x :: S) st := n_astore (by cases a4 <;> first | rfl | exact hb) hn rfl hd k
theorem n_ald6 {x : Nat} (hd : DD I.1 pc (.aload 6) 2 n) (k : GN p l e R s m args below meth c D cy ad A I Q kc ks Hp n (a0 :: a1 :: a2 :: a3 :: a4 :: a5 :: some (.ref x) :: L) (.ref x :: S) st) : GN p l e R s m args below meth c D cy ad A I Q kc ks Hp pc (a0 :: a1 :: a2 :: a3 :: a4 :: a5 :: some (.ref x) :: L) S st := n_aload rfl hd k
theorem n_ast6 {x : Nat} (hb : nl a5 = true) (hn : 6 < I.2.2.1) (hd : DD I.1 pc (.astore 6) 2 n) (k : GN p l e R s m args below meth c D cy ad A I Q kc ks Hp n (a0 :: a1 :: a2 :: a3 :: a4 :: a5 :: some (.ref x) :: L) S st) : GN p l e R s m args below meth c D cy ad A I Q kc ks Hp pc (a0 :: a1 :: a2 :: a3 :: a4 :: a5 :: a6 :: L) (.ref x :: S) st := n_astore (by cases a5 <;> first | rfl | exact hb) hn rfl hd k
theorem n_ald7 {x : Nat} (hd : DD I.1 pc (.aload 7) 2 n) (k : GN p l e R s m args below meth c D cy ad A I Q kc ks Hp n (a0 :: a1 :: a2 :: a3 :: a4 :: a5 :: a6 :: some (.ref x) :: L) (.ref x :: S) st) : GN p l e R s m args below meth c D cy ad A I Q kc ks Hp pc (a0 :: a1 :: a2 :: a3 :: a4 :: a5 :: a6 :: some (.ref x) :: L) S st := n_aload rfl hd k
theorem n_ast7 {x : Nat} (hb : nl a6 = true) (hn : 7 < I.2.2.1) (hd : DD I.1 pc (.astore 7) 2 n) (k : GN p l e R s m args below meth c D cy ad A I Q kc ks Hp n (a0 :: a1 :: a2 :: a3 :: a4 :: a5 :: a6 :: some (.ref x) :: L) S st) : GN p l e R s m args below meth c D cy ad A I Q kc ks Hp pc (a0 :: a1 :: a2 :: a3 :: a4 :: a5 :: a6 :: a7 :: L) (.ref x :: S) st := n_astore (by cases a6 <;> first | rfl | exact hb) hn rfl hd k
theorem n_ald8 {x : Nat} (hd : DD I.1 pc (.aload 8) 2 n) (k : GN p l e R s m args below meth c D cy ad A I Q kc ks Hp n (a0 :: a1 :: a2 :: a3 :: a4 :: a5 :: a6 :: a7 :: some (.ref x) :: L) (.ref x :: S) st) : GN p l e R s m args below meth c D cy ad A I Q kc ks Hp pc (a0 :: a1 :: a2 :: a3 :: a4 :: a5 :: a6 :: a7 :: some (.ref x) :: L) S st := n_aload rfl hd k
theorem n_ast8 {x : Nat} (hb : nl a7 = true) (hn : 8 < I.2.2.1) (hd : DD I.1 pc (.astore 8) 2 n) (k : GN p l e R s m args below meth c D cy ad A I Q kc ks Hp n (a0 :: a1 :: a2 :: a3 :: a4 :: a5 :: a6 :: a7 :: some (.ref x) :: L) S st) : GN p l e R s m args below meth c D cy ad A I Q kc ks Hp pc (a0 :: a1 :: a2 :: a3 :: a4 :: a5 :: a6 :: a7 :: a8 :: L) (.ref x :: S) st := n_astore (by cases a7 <;> first | rfl | exact hb) hn rfl hd k
theorem n_ald9 {x : Nat} (hd : DD I.1 pc (.aload 9) 2 n) (k : GN p l e R s m args below meth c D cy ad A I Q kc ks Hp n (a0 :: a1 :: a2 :: a3 :: a4 :: a5 :: a6 :: a7 :: a8 :: some (.ref x) :: L) (.ref x :: S) st) : GN p l e R s m args below meth c D cy ad A I Q kc ks Hp pc (a0 :: a1 :: a2 :: a3 :: a4 :: a5 :: a6 :: a7 :: a8 :: some (.ref x) :: L) S st := n_aload rfl hd k
theorem n_ast9 {x : Nat} (hb : nl a8 = true) (hn : 9 < I.2.2.1) (hd : DD I.1 pc (.astore 9) 2 n) (k : GN p l e R s m args below meth c D cy ad A I Q kc ks Hp n (a0 :: a1 :: a2 :: a3 :: a4 :: a5 :: a6 :: a7 :: a8 :: some (.ref x) :: L) S st) : GN p l e R s m args below meth c D cy ad A I Q kc ks Hp pc (a0 :: a1 :: a2 :: a3 :: a4 :: a5 :: a6 :: a7 :: a8 :: a9 :: L) (.ref x :: S) st := n_astore (by cases a8 <;> first | rfl | exact hb) hn rfl hd k
theorem n_ald10 {x : Nat} (hd : DD I.1 pc (.aload 10) 2 n) (k : GN p l e R s m args below meth c D cy ad A I Q kc ks Hp n (a0 :: a1 :: a2 :: a3 :: a4 :: a5 :: a6 :: a7 :: a8 :: a9 :: some (.ref x) :: L) (.ref x :: S) st) : GN p l e R s m args below meth c D cy ad A I Q kc ks Hp pc (a0 :: a1 :: a2 :: a3 :: a4 :: a5 :: a6 :: a7 :: a8 :: a9 :: some (.ref x) :: L) S st := n_aload rfl hd k
theorem n_ast10 {x : Nat} (hb : nl a9 = true) (hn : 10 < I.2.2.1) (hd : DD I.1 pc (.astore 10) 2 n) (k : GN p l e R s m args below meth c D cy ad A I Q kc ks Hp n (a0 :: a1 :: a2 :: a3 :: a4 :: a5 :: a6 :: a7 :: a8 :: a9 :: some (.ref x) :: L) S st) : GN p l e R s m args below meth c D cy ad A I Q kc ks Hp pc (a0 :: a1 :: a2 :: a3 :: a4 :: a5 :: a6 :: a7 :: a8 :: a9 :: a10 :: L) (.ref x :: S) st := n_astore (by cases a9 <;> first | rfl | exact hb) hn rfl hd k
theorem n_ald11 {x : Nat} (hd : DD I.1 pc (.aload 11) 2 n) (k : GN p l e R s m args below meth c D cy ad A I Q kc ks Hp n (a0 :: a1 :: a2 :: a3 :: a4 :: a5 :: a6 :: a7 :: a8 :: a9 :: a10 :: some (.ref x) :: L) (.ref x :: S) st) : GN p l e R s m args below meth c D cy ad A I Q kc ks Hp pc (a0 :: a1 :: a2 :: a3 :: a4 :: a5 :: a6 :: a7 :: a8 :: a9 :: a10 :: some (.ref x) :: L) S st := n_aload rfl hd k
theorem n_ast11 {x : Nat} (hb : nl a10 = true) (hn : 11 < I.2.2.1) (hd : DD I.1 pc (.astore 11) 2 n) (k : GN p l e R s m args below meth c D cy ad A I Q kc ks Hp n (a0 :: a1 :: a2 :: a3 :: a4 :: a5 :: a6 :: a7 :: a8 :: a9 :: a10 :: some (.ref x) :: L) S st) : GN p l e R s m args below meth c D cy ad A I Q kc ks Hp pc (a0 :: a1 :: a2 :: a3 :: a4 :: a5 :: a6 :: a7 :: a8 :: a9 :: a10 :: a11 :: L) (.ref x :: S) st := n_astore (by cases a10 <;> first | rfl | exact hb) hn rfl hd k
theorem n_ald12 {x : Nat} (hd : DD I.1 pc (.aload 12) 2 n) (k : GN p l e R s m args below meth c D cy ad A I Q kc ks Hp n (a0 :: a1 :: a2 :: a3 :: a4 :: a5 :: a6 :: a7 :: a8 :: a9 :: a10 :: a11 :: some (.ref x) :: L) (.ref x :: S) st) : GN p l e R s m args below meth c D cy ad A I Q kc ks Hp pc (a0 :: a1 :: a2 :: a3 :: a4 :: a5 :: a6 :: a7 :: a8 :: a9 :: a10 :: a11 :: some (.ref x) :: L) S st := n_aload rfl hd k
theorem n_ast12 {x : Nat} (hb : nl a11 = true) (hn : 12 < I.2.2.1) (hd : DD I.1 pc (.astore 12) 2 n) (k : GN p l e R s m args below meth c D cy ad A I Q kc ks Hp n (a0 :: a1 :: a2 :: a3 :: a4 :: a5 :: a6 :: a7 :: a8 :: a9 :: a10 :: a11 :: some (.ref x) :: L) S st) : GN p l e R s m args below meth c D cy ad A I Q kc ks Hp pc (a0 :: a1 :: a2 :: a3 :: a4 :: a5 :: a6 :: a7 :: a8 :: a9 :: a10 :: a11 :: a12 :: L) (.ref x :: S) st := n_astore (by cases a11 <;> first | rfl | exact hb) hn rfl hd k
theorem n_inc0 {x v : Int32} {z : Int} (hn : 0 < I.2.2.1) (hv : x + Int32.ofInt z = v) (hd : DD I.1 pc (.iinc 0 z) 3 n) (k : GN p l e R s m args below meth c D cy ad A I Q kc ks Hp n (some (.int v) :: L) S st) : GN p l e R s m args below meth c D cy ad A I Q kc ks Hp pc (some (.int x) :: L) S st := n_iinc rfl hn rfl hv rfl hd k
theorem n_inc1 {x v : Int32} {z : Int} (hb : nl a0 = true) (hn : 1 < I.2.2.1) (hv : x + Int32.ofInt z = v) (hd : DD I.1 pc (.iinc 1 z) 3 n) (k : GN p l e R s m args below meth c D cy ad A I Q kc ks Hp n (a0 :: some (.int v) :: L) S st) : GN p l e R s m args below meth c D cy ad A I Q kc ks Hp pc (a0 :: some (.int x) :: L) S st := n_iinc (by cases a0 <;> first | rfl | exact hb) hn rfl hv rfl hd k
theorem n_inc2 {x v : Int32} {z : Int} (hb : nl a1 = true) (hn : 2 < I.2.2.1) (hv : x + Int32.ofInt z = v) (hd : DD I.1 pc (.iinc 2 z) 3 n) (k : GN p l e R s m args below meth c D cy ad A I Q kc ks Hp n (a0 :: a1 :: some (.int v) :: L) S st) : GN p l e R s m args below meth c D cy ad A I Q kc ks Hp pc (a0 :: a1 :: some (.int x) :: L) S st := n_iinc (by cases a1 <;> first | rfl | exact hb) hn rfl hv rfl hd k
theorem n_inc3 {x v : Int32} {z : Int} (hb : nl a2 = true) (hn : 3 < I.2.2.1) (hv : x + Int32.ofInt z = v) (hd : DD I.1 pc (.iinc 3 z) 3 n) (k : GN p l e R s m args below meth c D cy ad A I Q kc ks Hp n (a0 :: a1 :: a2 :: some (.int v) :: L) S st) : GN p l e R s m args below meth c D cy ad A I Q kc ks Hp pc (a0 :: a1 :: a2 :: some (.int x) :: L) S st := n_iinc (by cases a2 <;> first | rfl | exact hb) hn rfl hv rfl hd k
theorem n_inc4 {x v : Int32} {z : Int} (hb : nl a3 = true) (hn : 4 < I.2.2.1) (hv : x + Int32.ofInt z = v) (hd : DD I.1 pc (.iinc 4 z) 3 n) (k : GN p l e R s m args below meth c D cy ad A I Q kc ks Hp n (a0 :: a1 :: a2 :: a3 :: some (.int v) :: L) S st) : GN p l e R s m args below meth c D cy ad A I Q kc ks Hp pc (a0 :: a1 :: a2 :: a3 :: some (.int x) :: L) S st := n_iinc (by cases a3 <;> first | rfl | exact hb) hn rfl hv rfl hd k
theorem n_inc5 {x v : Int32} {z : Int} (hb : nl a4 = true) (hn : 5 < I.2.2.1) (hv : x + Int32.ofInt z = v) (hd : DD I.1 pc (.iinc 5 z) 3 n) (k : GN p l e R s m args below meth c D cy ad A I Q kc ks Hp n (a0 :: a1 :: a2 :: a3 :: a4 :: some (.int v) :: L) S st) : GN p l e R s m args below meth c D cy ad A I Q kc ks Hp pc (a0 :: a1 :: a2 :: a3 :: a4 :: some (.int x) :: L) S st := n_iinc (by cases a4 <;> first | rfl | exact hb) hn rfl hv rfl hd k
theorem n_inc6 {x v : Int32} {z : Int} (hb : nl a5 = true) (hn : 6 < I.2.2.1) (hv : x + Int32.ofInt z = v) (hd : DD I.1 pc (.iinc 6 z) 3 n) (k : GN p l e R s m args below meth c D cy ad A I Q kc ks Hp n (a0 :: a1 :: a2 :: a3 :: a4 :: a5 :: some (.int v) :: L) S st) : GN p l e R s m args below meth c D cy ad A I Q kc ks Hp pc (a0 :: a1 :: a2 :: a3 :: a4 :: a5 :: some (.int x) :: L) S st := n_iinc (by cases a5 <;> first | rfl | exact hb) hn rfl hv rfl hd k
theorem n_inc7 {x v : Int32} {z : Int} (hb : nl a6 = true) (hn : 7 < I.2.2.1) (hv : x + Int32.ofInt z = v) (hd : DD I.1 pc (.iinc 7 z) 3 n) (k : GN p l e R s m args below meth c D cy ad A I Q kc ks Hp n (a0 :: a1 :: a2 :: a3 :: a4 :: a5 :: a6 :: some (.int v) :: L) S st) : GN p l e R s m args below meth c D cy ad A I Q kc ks Hp pc (a0 :: a1 :: a2 :: a3 :: a4 :: a5 :: a6 :: some (.int x) :: L) S st := n_iinc (by cases a6 <;> first | rfl | exact hb) hn rfl hv rfl hd k
theorem n_inc8 {x v : Int32} {z : Int} (hb : nl a7 = true) (hn : 8 < I.2.2.1) (hv : x + Int32.ofInt z = v) (hd : DD I.1 pc (.iinc 8 z) 3 n) (k : GN p l e R s m args below meth c D cy ad A I Q kc ks Hp n (a0 :: a1 :: a2 :: a3 :: a4 :: a5 :: a6 :: a7 :: some (.int v) :: L) S st) : GN p l e R s m args below meth c D cy ad A I Q kc ks Hp pc (a0 :: a1 :: a2 :: a3 :: a4 :: a5 :: a6 :: a7 :: some (.int x) :: L) S st := n_iinc (by cases a7 <;> first | rfl | exact hb) hn rfl hv rfl hd k
theorem n_inc9 {x v : Int32} {z : Int} (hb : nl a8 = true) (hn : 9 < I.2.2.1) (hv : x + Int32.ofInt z = v) (hd : DD I.1 pc (.iinc 9 z) 3 n) (k : GN p l e R s m args below meth c D cy ad A I Q kc ks Hp n (a0 :: a1 :: a2 :: a3 :: a4 :: a5 :: a6 :: a7 :: a8 :: some (.int v) :: L) S st) : GN p l e R s m args below meth c D cy ad A I Q kc ks Hp pc (a0 :: a1 :: a2 :: a3 :: a4 :: a5 :: a6 :: a7 :: a8 :: some (.int x) :: L) S st := n_iinc (by cases a8 <;> first | rfl | exact hb) hn rfl hv rfl hd k
theorem n_inc10 {x v : Int32} {z : Int} (hb : nl a9 = true) (hn : 10 < I.2.2.1) (hv : x + Int32.ofInt z = v) (hd : DD I.1 pc (.iinc 10 z) 3 n) (k : GN p l e R s m args below meth c D cy ad A I Q kc ks Hp n (a0 :: a1 :: a2 :: a3 :: a4 :: a5 :: a6 :: a7 :: a8 :: a9 :: some (.int v) :: L) S st) : GN p l e R s m args below meth c D cy ad A I Q kc ks Hp pc (a0 :: a1 :: a2 :: a3 :: a4 :: a5 :: a6 :: a7 :: a8 :: a9 :: some (.int x) :: L) S st := n_iinc (by cases a9 <;> first | rfl | exact hb) hn rfl hv rfl hd k
theorem n_inc11 {x v : Int32} {z : Int} (hb : nl a10 = true) (hn : 11 < I.2.2.1) (hv : x + Int32.ofInt z = v) (hd : DD I.1 pc (.iinc 11 z) 3 n) (k : GN p l e R s m args below meth c D cy ad A I Q kc ks Hp n (a0 :: a1 :: a2 :: a3 :: a4 :: a5 :: a6 :: a7 :: a8 :: a9 :: a10 :: some (.int v) :: L) S st) : GN p l e R s m args below meth c D cy ad A I Q kc ks Hp pc (a0 :: a1 :: a2 :: a3 :: a4 :: a5 :: a6 :: a7 :: a8 :: a9 :: a10 :: some (.int x) :: L) S st := n_iinc (by cases a10 <;> first | rfl | exact hb) hn rfl hv rfl hd k
theorem n_inc12 {x v : Int32} {z : Int} (hb : nl a11 = true) (hn : 12 < I.2.2.1) (hv : x + Int32.ofInt z = v) (hd : DD I.1 pc (.iinc 12 z) 3 n) (k : GN p l e R s m args below meth c D cy ad A I Q kc ks Hp n (a0 :: a1 :: a2 :: a3 :: a4 :: a5 :: a6 :: a7 :: a8 :: a9 :: a10 :: a11 :: some (.int v) :: L) S st) : GN p l e R s m args below meth c D cy ad A I Q kc ks Hp pc (a0 :: a1 :: a2 :: a3 :: a4 :: a5 :: a6 :: a7 :: a8 :: a9 :: a10 :: a11 :: some (.int x) :: L) S st := n_iinc (by cases a11 <;> first | rfl | exact hb) hn rfl hv rfl hd k
end NR
section QR
variable {p : Program} {l : Launch} {e : Env} {R : Room} {s : State} {m : MethodId} {args : Array Value} {below : List Frame} {meth : Method} {c : Code} {D : va_G} {cy : Nat → ClassId} {ad : Nat → Nat} {A : Nat → Prop} {I : MI} {Q : State → Prop} {kc ks : Nat} {Hp : Heap → Prop} {pc n : Nat} {L : List (Option Value)} {S : List Value} {st : St}
theorem q_getI {k j x ci : Nat} (hk : kd k = ci) (hN : k < N0) (hc : ci < 12) (hj : j < nFc ci) (ht : isI (tyC ci j) = true) (hw : Cond.fieldLink I.2.1 x (RC ci) (TC ci j).2.1 (TC ci j).2.2.1 ∈ wsA) (hd : DD I.1 pc (.getfield x) 3 n) (kk : GQ p l e R s m args below meth c D cy ad A I Q kc ks (fun _ => True) n L (.int (st.1 k j) :: S) st) : GQ p l e R s m args below meth c D cy ad A I Q kc ks (fun _ => True) pc L (.ref k :: S) st := by
  obtain ⟨h1, h2⟩ := hd
  subst h2
  subst hk
  intro h H locs ls hl hP hD hS hH
  exact va_get (D := D) (v := cv ad (.int (st.1 k j))) h.1 h.2.1 h.2.2.2.2.2.2.1 (lays_in _ hc) h.2.2.2.2.2.1 h.2.2.2.2.2.2.2.1 hP k ((cw_get cy ad st hN).trans (by rw [ce_obj hc])) (cl_at _ hc) j hj (h.2.2.2.2.2.2.1 _ hw) (by rw [decl_ok _ hc j hj]; exact hsame_r _ _ _) (by rw [fs_get ad st hj, fv_i ht]; rfl) h1 (kk h H locs ls hl hP hD hS hH)
theorem q_getL {k j x ci : Nat} (hk : kd k = ci) (hN : k < N0) (hc : ci < 12) (hj : j < nFc ci) (ht : tyC ci j = .long) (hw : Cond.fieldLink I.2.1 x (RC ci) (TC ci j).2.1 (TC ci j).2.2.1 ∈ wsA) (hd : DD I.1 pc (.getfield x) 3 n) (kk : GQ p l e R s m args below meth c D cy ad A I Q kc ks (fun _ => True) n L (.long (st.2 k j) :: S) st) : GQ p l e R s m args below meth c D cy ad A I Q kc ks (fun _ => True) pc L (.ref k :: S) st := by
  obtain ⟨h1, h2⟩ := hd
  subst h2
  subst hk
  intro h H locs ls hl hP hD hS hH
  exact va_get (D := D) (v := cv ad (.long (st.2 k j))) h.1 h.2.1 h.2.2.2.2.2.2.1 (lays_in _ hc) h.2.2.2.2.2.1 h.2.2.2.2.2.2.2.1 hP k ((cw_get cy ad st hN).trans (by rw [ce_obj hc])) (cl_at _ hc) j hj (h.2.2.2.2.2.2.1 _ hw) (by rw [decl_ok _ hc j hj]; exact hsame_r _ _ _) (by rw [fs_get ad st hj, ht]; rfl) h1 (kk h H locs ls hl hP hD hS hH)
theorem q_getR {k j x ci : Nat} (hk : kd k = ci) (hN : k < N0) (hc : ci < 12) (hj : j < nFc ci) {z : Nat} (ht : isR (tyC ci j) = true) (hr : r0 k j = some z) (hw : Cond.fieldLink I.2.1 x (RC ci) (TC ci j).2.1 (TC ci j).2.2.1 ∈ wsA) (hd : DD I.1 pc (.getfield x) 3 n) (kk : GQ p l e R s m args below meth c D cy ad A I Q kc ks (fun _ => True) n L (.ref z :: S) st) : GQ p l e R s m args below meth c D cy ad A I Q kc ks (fun _ => True) pc L (.ref k :: S) st := by
  obtain ⟨h1, h2⟩ := hd
  subst h2
  subst hk
  intro h H locs ls hl hP hD hS hH
  exact va_get (D := D) (v := cv ad (.ref z)) h.1 h.2.1 h.2.2.2.2.2.2.1 (lays_in _ hc) h.2.2.2.2.2.1 h.2.2.2.2.2.2.2.1 hP k ((cw_get cy ad st hN).trans (by rw [ce_obj hc])) (cl_at _ hc) j hj (h.2.2.2.2.2.2.1 _ hw) (by rw [decl_ok _ hc j hj]; exact hsame_r _ _ _) (by rw [fs_get ad st hj, fv_r ht, hr]; rfl) h1 (kk h H locs ls hl hP hD hS hH)
theorem q_putI {k j x ci : Nat} {v : Int32} (ht : tyC ci j = .int) (hk : kd k = ci) (hN : k < N0) (hc : ci < 12) (hj : j < nFc ci) (hf : (TC ci j).2.2.2 = false) (hw : Cond.fieldLink I.2.1 x (RC ci) (TC ci j).2.1 (TC ci j).2.2.1 ∈ wsA) (hd : DD I.1 pc (.putfield x) 3 n) (kk : GQ p l e R s m args below meth c D cy ad A I Q kc ks (fun _ => True) n L S (sI st k j v)) : GQ p l e R s m args below meth c D cy ad A I Q kc ks (fun _ => True) pc L (.int v :: .ref k :: S) st := by
  obtain ⟨h1, h2⟩ := hd
  subst h2
  subst hk
  intro h H locs ls hl hP hD hS hH
  refine va_put (D := D) (v := .int v) (ty := tyC (kd k) j) h.1 h.2.1 h.2.2.2.2.2.2.1 (lays_in _ hc) (tyC (kd k)) (ty_ok _ hc) (nm_ok _ hc) h.2.2.2.2.2.1 h.2.2.2.2.2.2.2.1 hP hD hS k ((cw_get cy ad st hN).trans (by rw [ce_obj hc])) (cl_at _ hc) j hj (h.2.2.2.2.2.2.1 _ hw) (by rw [decl_ok _ hc j hj]; exact hsame_r _ _ _) hf (ty_ok _ hc j hj) (by rw [ht]; rfl) (by rw [ht]; rfl) (by simp [fsOf]; exact hj) h1 (fun H2 locs2 hP2 hD2 hS2 => ?_)
  have e : (cw cy ad st).set k (ad k, .inr (kd k, (fsOf ad st k).set j (.int v))) = cw cy ad (sI st k j v) := cw_set cy ad st _ hN (by rw [ce_obj hc, fs_set ad st (sI st k j v) (by rw [ht]; simp [fv, sI_1]) (fun i hi => fv_other _ (by rw [sI_1, if_neg (fun q => hi q.2)]) rfl) hj]) (fun i _ hi => ce_other (sI_row hi) rfl)
  rw [e] at hP2 hD2
  exact kk h H2 locs2 ls hl hP2 hD2 hS2 True.intro
theorem q_putZ {k j x ci : Nat} {v : Int32} (ht : tyC ci j = .boolean) (hb : v = 0 ∨ v = 1) (hk : kd k = ci) (hN : k < N0) (hc : ci < 12) (hj : j < nFc ci) (hf : (TC ci j).2.2.2 = false) (hw : Cond.fieldLink I.2.1 x (RC ci) (TC ci j).2.1 (TC ci j).2.2.1 ∈ wsA) (hd : DD I.1 pc (.putfield x) 3 n) (kk : GQ p l e R s m args below meth c D cy ad A I Q kc ks (fun _ => True) n L S (sI st k j v)) : GQ p l e R s m args below meth c D cy ad A I Q kc ks (fun _ => True) pc L (.int v :: .ref k :: S) st := by
  obtain ⟨h1, h2⟩ := hd
  subst h2
  subst hk
  intro h H locs ls hl hP hD hS hH
  refine va_put (D := D) (v := .int v) (ty := tyC (kd k) j) h.1 h.2.1 h.2.2.2.2.2.2.1 (lays_in _ hc) (tyC (kd k)) (ty_ok _ hc) (nm_ok _ hc) h.2.2.2.2.2.1 h.2.2.2.2.2.2.2.1 hP hD hS k ((cw_get cy ad st hN).trans (by rw [ce_obj hc])) (cl_at _ hc) j hj (h.2.2.2.2.2.2.1 _ hw) (by rw [decl_ok _ hc j hj]; exact hsame_r _ _ _) hf (ty_ok _ hc j hj) (by rw [ht]; rcases hb with rfl | rfl <;> rfl) (by rw [ht]; rcases hb with rfl | rfl <;> rfl) (by simp [fsOf]; exact hj) h1 (fun H2 locs2 hP2 hD2 hS2 => ?_)
  have e : (cw cy ad st).set k (ad k, .inr (kd k, (fsOf ad st k).set j (.int v))) = cw cy ad (sI st k j v) := cw_set cy ad st _ hN (by rw [ce_obj hc, fs_set ad st (sI st k j v) (by rw [ht]; simp [fv, sI_1]) (fun i hi => fv_other _ (by rw [sI_1, if_neg (fun q => hi q.2)]) rfl) hj]) (fun i _ hi => ce_other (sI_row hi) rfl)
  rw [e] at hP2 hD2
  exact kk h H2 locs2 ls hl hP2 hD2 hS2 True.intro
theorem q_putL {k j x ci : Nat} {v : Int64} (ht : tyC ci j = .long) (hk : kd k = ci) (hN : k < N0) (hc : ci < 12) (hj : j < nFc ci) (hf : (TC ci j).2.2.2 = false) (hw : Cond.fieldLink I.2.1 x (RC ci) (TC ci j).2.1 (TC ci j).2.2.1 ∈ wsA) (hd : DD I.1 pc (.putfield x) 3 n) (kk : GQ p l e R s m args below meth c D cy ad A I Q kc ks (fun _ => True) n L S (sL st k j v)) : GQ p l e R s m args below meth c D cy ad A I Q kc ks (fun _ => True) pc L (.long v :: .ref k :: S) st := by
  obtain ⟨h1, h2⟩ := hd
  subst h2
  subst hk
  intro h H locs ls hl hP hD hS hH
  refine va_put (D := D) (v := .long v) (ty := tyC (kd k) j) h.1 h.2.1 h.2.2.2.2.2.2.1 (lays_in _ hc) (tyC (kd k)) (ty_ok _ hc) (nm_ok _ hc) h.2.2.2.2.2.1 h.2.2.2.2.2.2.2.1 hP hD hS k ((cw_get cy ad st hN).trans (by rw [ce_obj hc])) (cl_at _ hc) j hj (h.2.2.2.2.2.2.1 _ hw) (by rw [decl_ok _ hc j hj]; exact hsame_r _ _ _) hf (ty_ok _ hc j hj) (by rw [ht]; rfl) (by rw [ht]; rfl) (by simp [fsOf]; exact hj) h1 (fun H2 locs2 hP2 hD2 hS2 => ?_)
  have e : (cw cy ad st).set k (ad k, .inr (kd k, (fsOf ad st k).set j (.long v))) = cw cy ad (sL st k j v) := cw_set cy ad st _ hN (by rw [ce_obj hc, fs_set ad st (sL st k j v) (by rw [ht]; simp [fv, sL_2]) (fun i hi => fv_other _ rfl (by rw [sL_2, if_neg (fun q => hi q.2)])) hj]) (fun i _ hi => ce_other rfl (sL_row hi))
  rw [e] at hP2 hD2
  exact kk h H2 locs2 ls hl hP2 hD2 hS2 True.intro
theorem q_iald {k : Nat} {i : Int32} (hk : kd k = 13) (hN : k < N0) (hin : vp_in i (ln k)) (hd : DD I.1 pc .iaload 1 n) (kk : GQ p l e R s m args below meth c D cy ad A I Q kc ks (fun _ => True) n L (.int (st.1 k i.toNatClampNeg) :: S) st) : GQ p l e R s m args below meth c D cy ad A I Q kc ks (fun _ => True) pc L (.int i :: .ref k :: S) st := by
  obtain ⟨h1, h2⟩ := hd
  subst h2
  exact fun h H locs ls hl hP hD hS hH => va_iald h.1 h.2.1 h.2.2.2.2.2.2.2.1 hP k 1 ((cw_get cy ad st hN).trans (by rw [ce_arr (by omega), pa_i (Or.inr (Or.inl hk))])) (by rw [hk]; rfl) hin h1 (kk h H locs ls hl hP hD hS hH)
theorem q_bald {k : Nat} {i : Int32} (hk : kd k = 12) (hN : k < N0) (hin : vp_in i (ln k)) (hd : DD I.1 pc .baload 1 n) (kk : GQ p l e R s m args below meth c D cy ad A I Q kc ks (fun _ => True) n L (.int (st.1 k i.toNatClampNeg) :: S) st) : GQ p l e R s m args below meth c D cy ad A I Q kc ks (fun _ => True) pc L (.int i :: .ref k :: S) st := by
  obtain ⟨h1, h2⟩ := hd
  subst h2
  exact fun h H locs ls hl hP hD hS hH => va_bald h.1 h.2.1 h.2.2.2.2.2.2.2.1 hP k 0 ((cw_get cy ad st hN).trans (by rw [ce_arr (by omega), pa_i (Or.inl hk)])) (by rw [hk]; rfl) hin h1 (kk h H locs ls hl hP hD hS hH)
theorem q_zald {k : Nat} {i : Int32} (hk : kd k = 15) (hN : k < N0) (hin : vp_in i (ln k)) (hd : DD I.1 pc .baload 1 n) (kk : GQ p l e R s m args below meth c D cy ad A I Q kc ks (fun _ => True) n L (.int (st.1 k i.toNatClampNeg) :: S) st) : GQ p l e R s m args below meth c D cy ad A I Q kc ks (fun _ => True) pc L (.int i :: .ref k :: S) st := by
  obtain ⟨h1, h2⟩ := hd
  subst h2
  exact fun h H locs ls hl hP hD hS hH => va_zald h.1 h.2.1 h.2.2.2.2.2.2.2.1 hP k 3 ((cw_get cy ad st hN).trans (by rw [ce_arr (by omega), pa_i (Or.inr (Or.inr hk))])) (by rw [hk]; rfl) hin h1 (kk h H locs ls hl hP hD hS hH)
theorem q_lald {k : Nat} {i : Int32} (hk : kd k = 14) (hN : k < N0) (hin : vp_in i (ln k)) (hd : DD I.1 pc .laload 1 n) (kk : GQ p l e R s m args below meth c D cy ad A I Q kc ks (fun _ => True) n L (.long (st.2 k i.toNatClampNeg) :: S) st) : GQ p l e R s m args below meth c D cy ad A I Q kc ks (fun _ => True) pc L (.int i :: .ref k :: S) st := by
  obtain ⟨h1, h2⟩ := hd
  subst h2
  exact fun h H locs ls hl hP hD hS hH => va_lald h.1 h.2.1 h.2.2.2.2.2.2.2.1 hP k 2 ((cw_get cy ad st hN).trans (by rw [ce_arr (by omega), pa_l hk])) (by rw [hk]; rfl) hin h1 (kk h H locs ls hl hP hD hS hH)
theorem q_aald {k z : Nat} {i : Int32} (hk : kd k = 16 ∨ kd k = 17) (hN : k < N0) (hin : vp_in i (ln k)) (hr : r0 k i.toNatClampNeg = some z) (hd : DD I.1 pc .aaload 1 n) (kk : GQ p l e R s m args below meth c D cy ad A I Q kc ks (fun _ => True) n L (.ref z :: S) st) : GQ p l e R s m args below meth c D cy ad A I Q kc ks (fun _ => True) pc L (.int i :: .ref k :: S) st := by
  obtain ⟨h1, h2⟩ := hd
  subst h2
  intro h H locs ls hl hP hD hS hH
  have hc := (cw_get cy ad st hN).trans (by rw [ce_arr (by omega), pa_r hk])
  have hz : va_rf ((r0 k i.toNatClampNeg).map ad) = cv ad (.ref z) := by rw [hr]; rfl
  have k9 := kk h H locs ls hl hP hD hS hH
  rw [List.map_cons, ← hz] at k9
  rcases hk with hk | hk
  · exact va_aldq (C := "SealedSums$Key") h.1 h.2.1 h.2.2.2.2.2.2.2.1 hP k 4 hc (by rw [hk]; rfl) hin h1 k9
  · exact va_aldq (C := "SealedSums$Program") h.1 h.2.1 h.2.2.2.2.2.2.2.1 hP k 5 hc (by rw [hk]; rfl) hin h1 k9
theorem q_iast {k : Nat} {i : Int32} {x : Int32} (hk : kd k = 13) (hN : k < N0) (hin : vp_in i (ln k)) (hd : DD I.1 pc .iastore 1 n) (kk : GQ p l e R s m args below meth c D cy ad A I Q kc ks (fun _ => True) n L S (sI st k i.toNatClampNeg x)) : GQ p l e R s m args below meth c D cy ad A I Q kc ks (fun _ => True) pc L (.int x :: .int i :: .ref k :: S) st := by
  obtain ⟨h1, h2⟩ := hd
  subst h2
  intro h H locs ls hl hP hD hS hH
  refine va_iast h.1 h.2.1 h.2.2.2.2.2.2.2.1 hP hD hS k 1 ((cw_get cy ad st hN).trans (by rw [ce_arr (by omega), pa_i (Or.inr (Or.inl hk))])) (by rw [hk]; rfl) hin h1 (fun H2 locs2 hP2 hD2 hS2 => ?_)
  rw [cw_set cy ad st (sI st k i.toNatClampNeg x) hN (by rw [ce_arr (by omega), pa_i (Or.inr (Or.inl hk)), sI_upd] <;> rfl) (fun i _ hi => ce_other (sI_row hi) rfl)] at hP2 hD2
  exact kk h H2 locs2 ls hl hP2 hD2 hS2 True.intro
theorem q_bast {k : Nat} {i : Int32} {x : Int32} (hk : kd k = 12) (hN : k < N0) (hin : vp_in i (ln k)) (hd : DD I.1 pc .bastore 1 n) (kk : GQ p l e R s m args below meth c D cy ad A I Q kc ks (fun _ => True) n L S (sI st k i.toNatClampNeg x.toInt8.toInt32)) : GQ p l e R s m args below meth c D cy ad A I Q kc ks (fun _ => True) pc L (.int x :: .int i :: .ref k :: S) st := by
  obtain ⟨h1, h2⟩ := hd
  subst h2
  intro h H locs ls hl hP hD hS hH
  refine va_bast h.1 h.2.1 h.2.2.2.2.2.2.2.1 hP hD hS k 0 ((cw_get cy ad st hN).trans (by rw [ce_arr (by omega), pa_i (Or.inl hk)])) (by rw [hk]; rfl) hin h1 (fun H2 locs2 hP2 hD2 hS2 => ?_)
  rw [cw_set cy ad st (sI st k i.toNatClampNeg x.toInt8.toInt32) hN (by rw [ce_arr (by omega), pa_i (Or.inl hk), sI_upd] <;> rfl) (fun i _ hi => ce_other (sI_row hi) rfl)] at hP2 hD2
  exact kk h H2 locs2 ls hl hP2 hD2 hS2 True.intro
theorem q_last {k : Nat} {i : Int32} {x : Int64} (hk : kd k = 14) (hN : k < N0) (hin : vp_in i (ln k)) (hd : DD I.1 pc .lastore 1 n) (kk : GQ p l e R s m args below meth c D cy ad A I Q kc ks (fun _ => True) n L S (sL st k i.toNatClampNeg x)) : GQ p l e R s m args below meth c D cy ad A I Q kc ks (fun _ => True) pc L (.long x :: .int i :: .ref k :: S) st := by
  obtain ⟨h1, h2⟩ := hd
  subst h2
  intro h H locs ls hl hP hD hS hH
  refine va_last h.1 h.2.1 h.2.2.2.2.2.2.2.1 hP hD hS k 2 ((cw_get cy ad st hN).trans (by rw [ce_arr (by omega), pa_l hk])) (by rw [hk]; rfl) hin h1 (fun H2 locs2 hP2 hD2 hS2 => ?_)
  rw [cw_set cy ad st (sL st k i.toNatClampNeg x) hN (by rw [ce_arr (by omega), pa_l hk, sL_upd] <;> rfl) (fun i _ hi => ce_other rfl (sL_row hi))] at hP2 hD2
  exact kk h H2 locs2 ls hl hP2 hD2 hS2 True.intro
theorem q_zast {k : Nat} {i : Int32} {x : Int32} (hk : kd k = 15) (hN : k < N0) (hx : vp_nar .boolean x = x) (hin : vp_in i (ln k)) (hd : DD I.1 pc .bastore 1 n) (kk : GQ p l e R s m args below meth c D cy ad A I Q kc ks (fun _ => True) n L S (sI st k i.toNatClampNeg x)) : GQ p l e R s m args below meth c D cy ad A I Q kc ks (fun _ => True) pc L (.int x :: .int i :: .ref k :: S) st := by
  obtain ⟨h1, h2⟩ := hd
  subst h2
  intro h H locs ls hl hP hD hS hH
  refine va_zast h.1 h.2.1 h.2.2.2.2.2.2.2.1 hP hD hS k 3 ((cw_get cy ad st hN).trans (by rw [ce_arr (by omega), pa_i (Or.inr (Or.inr hk))])) (by rw [hk]; rfl) hin h1 (fun H2 locs2 hP2 hD2 hS2 => ?_)
  rw [hx] at hP2 hD2
  rw [cw_set cy ad st (sI st k i.toNatClampNeg x) hN (by rw [ce_arr (by omega), pa_i (Or.inr (Or.inr hk)), sI_upd]) (fun i _ hi => ce_other (sI_row hi) rfl)] at hP2 hD2
  exact kk h H2 locs2 ls hl hP2 hD2 hS2 True.intro
theorem q_alen {k : Nat} {v : Int32} (hk : 12 ≤ kd k) (hk2 : kd k < 18) (hN : k < N0) (hv : Int32.ofNat (ln k) = v) (hd : DD I.1 pc .arraylength 1 n) (kk : GQ p l e R s m args below meth c D cy ad A I Q kc ks (fun _ => True) n L (.int v :: S) st) : GQ p l e R s m args below meth c D cy ad A I Q kc ks (fun _ => True) pc L (.ref k :: S) st := by
  obtain ⟨h1, h2⟩ := hd
  subst h2
  intro h H locs ls hl hP hD hS hH
  have hc := (cw_get cy ad st hN).trans (by rw [ce_arr (by omega)])
  have ht : ∃ ty, (tyl cy)[kd k - 12]? = some (cy (kd k), ty) := by
    have h9 : kd k = 12 ∨ kd k = 13 ∨ kd k = 14 ∨ kd k = 15 ∨ kd k = 16 ∨ kd k = 17 := by omega
    rcases h9 with h9 | h9 | h9 | h9 | h9 | h9 <;> rw [h9] <;> exact ⟨_, rfl⟩
  obtain ⟨ty, ht⟩ := ht
  exact va_alen h.1 h.2.1 h.2.2.2.2.2.2.2.1 hP k (kd k - 12) hc ht hv h1 (kk h H locs ls hl hP hD hS hH)
theorem q_callS {x d : Nat} {Y : MY} {as S0 : List Value} {post2 : Option Value → St → Prop} {n9 : Nat} (hM : M l D cy d Y as st post2) (hw : CS I.2.1 x Y n9) (hd : DD I.1 pc (.invokestatic x) 3 n) (hR : d + 1 ≤ R.frames ∧ 64 * (d + 1) ≤ R.locals) (hn : as.length = n9) (hs : S0 = as.reverse ++ S) (hc : (S.map fun v => v.category).sum ≤ 8) (hkc : kc ≤ R.cells ∧ ks ≤ R.slots)
    (kk : ∀ (v : Option Value) (u : St), post2 v u → GQ p l e R s m args below meth c D cy ad A I Q kc ks (fun _ => True) n L (v.toList ++ S) u) : GQ p l e R s m args below meth c D cy ad A I Q kc ks (fun _ => True) pc L S0 st := by
  obtain ⟨h1, h2⟩ := hd
  subst h2
  subst hs
  intro h H locs ls hl hP hD hS _
  refine run_G (st := st) (rest := S.map (cv ad)) (post2 := post2) (va_runS (As := as.map (cv ad)) (Ts := wsA) ⟨h.1, h.2.1, h.2.2.1, h.2.2.2.2.2.1, h.2.2.2.2.2.2.1⟩ (hM ad H.size) ⟨cb_of hw.1 h.2.2.2.2.2.2.1 hR, h.2.2.2.2.2.2.1 _ hw.2⟩ ⟨pco_blind, pco_at h hP hD hS⟩ rfl (by rw [List.length_map]; exact hn) hl.1 (by show (as.reverse ++ S).map (cv ad) = _; rw [List.map_append, List.map_reverse]) (by show 2 * 0 + _ ≤ 8; rw [cat_S]; omega) h1 ⟨hkc.1, hkc.2⟩) hD hS h.2.2.2.2.2.2.2.2.1 (fun v u H1 locs1 hp hP1 hD1 hS1 => ?_)
  rw [stk_v]
  exact kk v u hp h H1 locs1 ls hl hP1 hD1 hS1 True.intro
theorem q_callV {x d k ci : Nat} {Y : MY} {as S0 : List Value} {post2 : Option Value → St → Prop} {n9 : Nat} (hM : M l D cy d Y (.ref k :: as) st post2) (hk : kd k = ci) (hN : k < N0) (hci : ci < 12) (hC : RC ci = Y.1.cls) (hw : CV I.2.1 x Y n9) (hd : DD I.1 pc (.invokevirtual x) 3 n) (hR : d + 1 ≤ R.frames ∧ 64 * (d + 1) ≤ R.locals) (hn : as.length = n9) (hs : S0 = as.reverse ++ .ref k :: S) (hc : (S.map fun v => v.category).sum ≤ 8) (hkc : kc ≤ R.cells ∧ ks ≤ R.slots)
    (kk : ∀ (v : Option Value) (u : St), post2 v u → GQ p l e R s m args below meth c D cy ad A I Q kc ks (fun _ => True) n L (v.toList ++ S) u) : GQ p l e R s m args below meth c D cy ad A I Q kc ks (fun _ => True) pc L S0 st := by
  obtain ⟨h1, h2⟩ := hd
  subst h2
  subst hs
  subst hk
  intro h H locs ls hl hP hD hS _
  have hrc := va_recv (q0 := k) h.2.2.2.2.2.2.2.1 hP (cl_at _ hci) ((cw_get cy ad st hN).trans (by rw [ce_obj hci]))
  refine run_G (st := st) (rest := S.map (cv ad)) (post2 := post2) (va_runV (As := as.map (cv ad)) (b := ad k) (C := Y.1.cls) (Ts := wsA) ⟨h.1, h.2.1, h.2.2.1, h.2.2.2.2.2.1, h.2.2.2.2.2.2.1⟩ (hM ad H.size) ⟨cb_of hw.1 h.2.2.2.2.2.2.1 hR, h.2.2.2.2.2.2.1 _ hw.2.1, h.2.2.2.2.2.2.1 _ hw.2.2⟩ ⟨pco_blind, by rw [← hC]; exact hrc, pco_at h hP hD hS⟩ rfl (by rw [List.length_map]; exact hn) hl.1 (by show (as.reverse ++ .ref k :: S).map (cv ad) = _; rw [List.map_append, List.map_reverse]; rfl) (by show 2 * 0 + _ ≤ 8; rw [cat_S]; omega) h1 ⟨hkc.1, hkc.2⟩) hD hS h.2.2.2.2.2.2.2.2.1 (fun v u H1 locs1 hp hP1 hD1 hS1 => ?_)
  rw [stk_v]
  exact kk v u hp h H1 locs1 ls hl hP1 hD1 hS1 True.intro
theorem q_callSi {x d n9 : Nat} {Y : MY} {as S0 : List Value} {pp : Int32 → St → Prop} (hM : Mi l D cy d Y as st pp) (hw : CS I.2.1 x Y n9) (hd : DD I.1 pc (.invokestatic x) 3 n) (hR : d + 1 ≤ R.frames ∧ 64 * (d + 1) ≤ R.locals) (hn : as.length = n9) (hs : S0 = as.reverse ++ S) (hc : (S.map fun v => v.category).sum ≤ 8) (hkc : kc ≤ R.cells ∧ ks ≤ R.slots)
    (kk : ∀ (r : Int32) (u : St), pp r u → GQ p l e R s m args below meth c D cy ad A I Q kc ks (fun _ => True) n L (.int r :: S) u) : GQ p l e R s m args below meth c D cy ad A I Q kc ks (fun _ => True) pc L S0 st := q_callS hM hw hd hR hn hs hc hkc (fun v u h => by obtain ⟨r, rfl, h⟩ := h; exact kk r u h)
theorem q_callVi {x d n9 : Nat} {k ci : Nat} {Y : MY} {as S0 : List Value} {pp : Int32 → St → Prop} (hM : Mi l D cy d Y (.ref k :: as) st pp) (hk : kd k = ci) (hN : k < N0) (hci : ci < 12) (hC : RC ci = Y.1.cls) (hw : CV I.2.1 x Y n9) (hd : DD I.1 pc (.invokevirtual x) 3 n) (hR : d + 1 ≤ R.frames ∧ 64 * (d + 1) ≤ R.locals) (hn : as.length = n9) (hs : S0 = as.reverse ++ .ref k :: S) (hc : (S.map fun v => v.category).sum ≤ 8) (hkc : kc ≤ R.cells ∧ ks ≤ R.slots)
    (kk : ∀ (r : Int32) (u : St), pp r u → GQ p l e R s m args below meth c D cy ad A I Q kc ks (fun _ => True) n L (.int r :: S) u) : GQ p l e R s m args below meth c D cy ad A I Q kc ks (fun _ => True) pc L S0 st := q_callV hM hk hN hci hC hw hd hR hn hs hc hkc (fun v u h => by obtain ⟨r, rfl, h⟩ := h; exact kk r u h)
theorem q_callSl {x d n9 : Nat} {Y : MY} {as S0 : List Value} {pp : Int64 → St → Prop} (hM : Ml l D cy d Y as st pp) (hw : CS I.2.1 x Y n9) (hd : DD I.1 pc (.invokestatic x) 3 n) (hR : d + 1 ≤ R.frames ∧ 64 * (d + 1) ≤ R.locals) (hn : as.length = n9) (hs : S0 = as.reverse ++ S) (hc : (S.map fun v => v.category).sum ≤ 8) (hkc : kc ≤ R.cells ∧ ks ≤ R.slots)
    (kk : ∀ (r : Int64) (u : St), pp r u → GQ p l e R s m args below meth c D cy ad A I Q kc ks (fun _ => True) n L (.long r :: S) u) : GQ p l e R s m args below meth c D cy ad A I Q kc ks (fun _ => True) pc L S0 st := q_callS hM hw hd hR hn hs hc hkc (fun v u h => by obtain ⟨r, rfl, h⟩ := h; exact kk r u h)
theorem q_callVl {x d n9 : Nat} {k ci : Nat} {Y : MY} {as S0 : List Value} {pp : Int64 → St → Prop} (hM : Ml l D cy d Y (.ref k :: as) st pp) (hk : kd k = ci) (hN : k < N0) (hci : ci < 12) (hC : RC ci = Y.1.cls) (hw : CV I.2.1 x Y n9) (hd : DD I.1 pc (.invokevirtual x) 3 n) (hR : d + 1 ≤ R.frames ∧ 64 * (d + 1) ≤ R.locals) (hn : as.length = n9) (hs : S0 = as.reverse ++ .ref k :: S) (hc : (S.map fun v => v.category).sum ≤ 8) (hkc : kc ≤ R.cells ∧ ks ≤ R.slots)
    (kk : ∀ (r : Int64) (u : St), pp r u → GQ p l e R s m args below meth c D cy ad A I Q kc ks (fun _ => True) n L (.long r :: S) u) : GQ p l e R s m args below meth c D cy ad A I Q kc ks (fun _ => True) pc L S0 st := q_callV hM hk hN hci hC hw hd hR hn hs hc hkc (fun v u h => by obtain ⟨r, rfl, h⟩ := h; exact kk r u h)
theorem q_callSv {x d n9 : Nat} {Y : MY} {as S0 : List Value} {pp : St → Prop} (hM : Mv l D cy d Y as st pp) (hw : CS I.2.1 x Y n9) (hd : DD I.1 pc (.invokestatic x) 3 n) (hR : d + 1 ≤ R.frames ∧ 64 * (d + 1) ≤ R.locals) (hn : as.length = n9) (hs : S0 = as.reverse ++ S) (hc : (S.map fun v => v.category).sum ≤ 8) (hkc : kc ≤ R.cells ∧ ks ≤ R.slots)
    (kk : ∀ u : St, pp u → GQ p l e R s m args below meth c D cy ad A I Q kc ks (fun _ => True) n L S u) : GQ p l e R s m args below meth c D cy ad A I Q kc ks (fun _ => True) pc L S0 st := q_callS hM hw hd hR hn hs hc hkc (fun v u h => by obtain ⟨rfl, h⟩ := h; exact kk u h)
theorem q_callVv {x d n9 : Nat} {k ci : Nat} {Y : MY} {as S0 : List Value} {pp : St → Prop} (hM : Mv l D cy d Y (.ref k :: as) st pp) (hk : kd k = ci) (hN : k < N0) (hci : ci < 12) (hC : RC ci = Y.1.cls) (hw : CV I.2.1 x Y n9) (hd : DD I.1 pc (.invokevirtual x) 3 n) (hR : d + 1 ≤ R.frames ∧ 64 * (d + 1) ≤ R.locals) (hn : as.length = n9) (hs : S0 = as.reverse ++ .ref k :: S) (hc : (S.map fun v => v.category).sum ≤ 8) (hkc : kc ≤ R.cells ∧ ks ≤ R.slots)
    (kk : ∀ u : St, pp u → GQ p l e R s m args below meth c D cy ad A I Q kc ks (fun _ => True) n L S u) : GQ p l e R s m args below meth c D cy ad A I Q kc ks (fun _ => True) pc L S0 st := q_callV hM hk hN hci hC hw hd hR hn hs hc hkc (fun v u h => by obtain ⟨rfl, h⟩ := h; exact kk u h)
end QR
