/-! THE JUDGEMENT: values with ids for addresses; locals by their places -/
def cv (ad : Nat → Nat) (v : Value) : Value := match v with
  | .ref a => .ref (ad a)
  | w => w
theorem cv_cat (ad : Nat → Nat) (v : Value) : (cv ad v).category = v.category := by cases v <;> rfl
def pv (ad : Nat → Nat) : Nat → List (Option Value) → List (Nat × Value)
  | _, [] => []
  | i, none :: r => pv ad (i + 1) r
  | i, some v :: r => (i, cv ad v) :: pv ad (i + 1) r
theorem pv_in {ad : Nat → Nat} : ∀ {L : List (Option Value)} {i : Nat} {q : Nat × Value}, q ∈ pv ad i L ↔ ∃ (k : Nat) (v : Value), L[k]? = some (some v) ∧ q = (i + k, cv ad v)
  | [], i, q => by simp [pv]
  | none :: r, i, q => by
    rw [show pv ad i (none :: r) = pv ad (i + 1) r from rfl, pv_in]
    constructor
    · rintro ⟨k, v, h1, h2⟩
      exact ⟨k + 1, v, by simpa using h1, by rw [h2]; congr 1; omega⟩
    · rintro ⟨k, v, h1, h2⟩
      cases k with
      | zero => simp at h1
      | succ k => exact ⟨k, v, by simpa using h1, by rw [h2]; congr 1; omega⟩
  | some w :: r, i, q => by
    rw [show pv ad i (some w :: r) = (i, cv ad w) :: pv ad (i + 1) r from rfl, List.mem_cons, pv_in]
    constructor
    · rintro (h | ⟨k, v, h1, h2⟩)
      · exact ⟨0, w, by simp, by rw [h]; rfl⟩
      · exact ⟨k + 1, v, by simpa using h1, by rw [h2]; congr 1; omega⟩
    · rintro ⟨k, v, h1, h2⟩
      cases k with
      | zero =>
        left
        simp at h1
        rw [h2, h1]; rfl
      | succ k => exact Or.inr ⟨k, v, by simpa using h1, by rw [h2]; congr 1; omega⟩
theorem lv_more {ls : Array Slot} {nL : Nat} {l l' : List (Nat × Value)} (h : lv_has ls nL l) (hs : ∀ q ∈ l', q ∈ l) : lv_has ls nL l' := ⟨h.1, h.2.1, fun q hq => h.2.2 q (hs q hq)⟩
theorem pv_at {ad : Nat → Nat} {L : List (Option Value)} {ls : Array Slot} {nL i : Nat} {v : Value} (h : lv_has ls nL (pv ad 0 L)) (hi : L[i]? = some (some v)) : ls[i]? = some (.val (cv ad v)) := by
  have h1 := h.2.2 (0 + i, cv ad v) (pv_in.mpr ⟨i, v, hi, rfl⟩)
  simpa using h1
/-- no long just ahead of i -/
def nlb (L : List (Option Value)) (i : Nat) : Bool := match i with
  | 0 => true
  | j + 1 => match L[j]? with
    | some (some v) => !(v.category == 2)
    | _ => true
theorem pv_set1 {ad : Nat → Nat} {L : List (Option Value)} {i : Nat} {v : Value} (hb : nlb L i = true) : ∀ q ∈ pv ad 0 (L.set i (some v)), q ∈ (i, cv ad v) :: (pv ad 0 L).filter (fun q => !(q.1 == i) && !(q.1 + 1 == i && q.2.category == 2)) := by
  intro q hq
  obtain ⟨k, w, h1, h2⟩ := pv_in.mp hq
  rw [Nat.zero_add] at h2
  by_cases hk : k = i
  · subst hk
    have hl : k < (L.set k (some v)).length := (List.getElem?_eq_some_iff.mp h1).1
    rw [List.length_set] at hl
    rw [List.getElem?_set_self hl] at h1
    cases h1
    rw [h2]
    exact List.mem_cons_self
  · rw [List.getElem?_set_ne (Ne.symm hk)] at h1
    refine List.mem_cons_of_mem _ (List.mem_filter.mpr ⟨pv_in.mpr ⟨k, w, h1, by rw [h2]; simp⟩, ?_⟩)
    rw [h2]
    by_cases hk1 : k + 1 = i
    · subst hk1
      simp only [nlb, h1] at hb
      simp [cv_cat]
      simpa using hb
    · simp [hk, hk1]
theorem pv_set2 {ad : Nat → Nat} {L : List (Option Value)} {i : Nat} {v : Value} (hb : nlb L i = true) (hn : L[i + 1]? = some none) : ∀ q ∈ pv ad 0 (L.set i (some v)), q ∈ (i, cv ad v) :: (pv ad 0 L).filter (fun q => !(q.1 == i) && (!(q.1 == i + 1) && !(q.1 + 1 == i && q.2.category == 2))) := by
  intro q hq
  obtain ⟨k, w, h1, h2⟩ := pv_in.mp hq
  rw [Nat.zero_add] at h2
  by_cases hk : k = i
  · subst hk
    have hl : k < (L.set k (some v)).length := (List.getElem?_eq_some_iff.mp h1).1
    rw [List.length_set] at hl
    rw [List.getElem?_set_self hl] at h1
    cases h1
    rw [h2]
    exact List.mem_cons_self
  · rw [List.getElem?_set_ne (Ne.symm hk)] at h1
    refine List.mem_cons_of_mem _ (List.mem_filter.mpr ⟨pv_in.mpr ⟨k, w, h1, by rw [h2]; simp⟩, ?_⟩)
    rw [h2]
    have hk2 : k ≠ i + 1 := fun e => by rw [e, hn] at h1; cases h1
    by_cases hk1 : k + 1 = i
    · subst hk1
      simp only [nlb, h1] at hb
      simp [cv_cat]
      exact ⟨by omega, by simpa using hb⟩
    · simp [hk, hk1, hk2]
abbrev MI : Type := ByteArray × String × Nat × Option FieldType
def QC (D : va_G) (cy : Nat → ClassId) (ad : Nat → Nat) (A : Nat → Prop) (post : Option Value → St → Prop) : Array Value → State → Outcome → State → Prop := fun _ s0 o t =>
  (∃ (v : Option Value) (u : St), o = .returned (v.map (cv ad)) ∧ post v u ∧ va_P D vwCl (cw cy ad u) t.heap ∧ va_K D vwCl (tyl cy) t ∧ va_D A (cw cy ad u)) ∧ va_F A s0 t
def GH (p : Program) (s : State) (m : MethodId) (args : Array Value) (meth : Method) (c : Code) (D : va_G) (cy : Nat → ClassId) (ad : Nat → Nat) (A : Nat → Prop) (I : MI) : Prop :=
  p.tables.exec = Jvm.exec ∧ c.code = I.1 ∧ c.maxLocals = I.2.2.1 ∧ meth.sig.returnType = I.2.2.2 ∧ meth.locks = false ∧ s.vm.findClass I.2.1 = some m.cls ∧ (∀ w ∈ wsA, w.before args s = true) ∧ va_K D vwCl (tyl cy) s ∧ (∀ q, s.heap.size ≤ q → A q) ∧ EX ad A s s.heap
def G (p : Program) (l : Launch) (e : Env) (R : Room) (s : State) (m : MethodId) (args : Array Value) (below : List Frame) (meth : Method) (c : Code) (D : va_G) (cy : Nat → ClassId) (ad : Nat → Nat) (A : Nat → Prop) (I : MI) (post : Option Value → St → Prop) (pc : Nat) (L : List (Option Value)) (S : List Value) (st : St) : Prop :=
  GH p s m args meth c D cy ad A I → ∀ (H : Heap) (locs : List Loc) (ls : Array Slot), lv_has ls I.2.2.1 (pv ad 0 L) → va_P D vwCl (cw cy ad st) H → va_D A (cw cy ad st) → va_S A s.heap H locs →
    W p l e R s m args below meth c H locs 0 0 (MQ below (QC D cy ad A post) args s 0 0 A) (F0 m pc ls (S.map (cv ad)))
/-- an instruction and the place behind it -/
def DD (cc : ByteArray) (pc : Nat) (i : Instr) (len n : Nat) : Prop := decode cc pc = .ok (i, len) ∧ pc + len = n
def DB (cc : ByteArray) (pc : Nat) (i : Instr) (off : Int) (n tgt : Nat) : Prop := decode cc pc = .ok (i, 3) ∧ pc + 3 = n ∧ (pc : Int) + off = (tgt : Int)
section GR
variable {p : Program} {l : Launch} {e : Env} {R : Room} {s : State} {m : MethodId} {args : Array Value} {below : List Frame} {meth : Method} {c : Code} {D : va_G} {cy : Nat → ClassId} {ad : Nat → Nat} {A : Nat → Prop} {I : MI} {post : Option Value → St → Prop} {pc n : Nat} {L : List (Option Value)} {S : List Value} {st : St}

theorem g_iconst {z : Int} {v : Int32} (hv : Int32.ofInt z = v) (hd : DD I.1 pc (.iconst z) 1 n) (k : G p l e R s m args below meth c D cy ad A I post n L (.int v :: S) st) : G p l e R s m args below meth c D cy ad A I post pc L (S) st := by
  obtain ⟨h1, h2⟩ := hd
  subst h2
  exact fun h H locs ls hl hP hD hS => lv_iconst h.1 h.2.1 h1 hv (k h H locs ls hl hP hD hS)
theorem g_bipush {z : Int} {v : Int32} (hv : (Int8.ofInt z).toInt32 = v) (hd : DD I.1 pc (.bipush z) 2 n) (k : G p l e R s m args below meth c D cy ad A I post n L (.int v :: S) st) : G p l e R s m args below meth c D cy ad A I post pc L (S) st := by
  obtain ⟨h1, h2⟩ := hd
  subst h2
  exact fun h H locs ls hl hP hD hS => lv_bipush h.1 h.2.1 h1 hv (k h H locs ls hl hP hD hS)
theorem g_sipush {z : Int} {v : Int32} (hv : (Int16.ofInt z).toInt32 = v) (hd : DD I.1 pc (.sipush z) 3 n) (k : G p l e R s m args below meth c D cy ad A I post n L (.int v :: S) st) : G p l e R s m args below meth c D cy ad A I post pc L (S) st := by
  obtain ⟨h1, h2⟩ := hd
  subst h2
  exact fun h H locs ls hl hP hD hS => lv_sipush h.1 h.2.1 h1 hv (k h H locs ls hl hP hD hS)
theorem g_lconst {z : Fin 2} {v : Int64} (hv : Int64.ofNat (z : Nat) = v) (hd : DD I.1 pc (.lconst z) 1 n) (k : G p l e R s m args below meth c D cy ad A I post n L (.long v :: S) st) : G p l e R s m args below meth c D cy ad A I post pc L (S) st := by
  obtain ⟨h1, h2⟩ := hd
  subst h2
  exact fun h H locs ls hl hP hD hS => lv_lconst h.1 h.2.1 h1 hv (k h H locs ls hl hP hD hS)
theorem g_ldc {x : Nat} {v : Int32} (hw : Cond.constant I.2.1 x v ∈ wsA) (hd : DD I.1 pc (.ldc x) 2 n) (k : G p l e R s m args below meth c D cy ad A I post n L (.int v :: S) st) : G p l e R s m args below meth c D cy ad A I post pc L (S) st := by
  obtain ⟨h1, h2⟩ := hd
  subst h2
  exact fun h H locs ls hl hP hD hS => lv_ldc h.1 h.2.1 h.2.2.2.2.2.1 (h.2.2.2.2.2.2.1 _ hw) h1 (k h H locs ls hl hP hD hS)
theorem g_ldcw {x : Nat} {v : Int32} (hw : Cond.constant I.2.1 x v ∈ wsA) (hd : DD I.1 pc (.ldc_w x) 3 n) (k : G p l e R s m args below meth c D cy ad A I post n L (.int v :: S) st) : G p l e R s m args below meth c D cy ad A I post pc L (S) st := by
  obtain ⟨h1, h2⟩ := hd
  subst h2
  exact fun h H locs ls hl hP hD hS => lv_ldcw h.1 h.2.1 h.2.2.2.2.2.1 (h.2.2.2.2.2.2.1 _ hw) h1 (k h H locs ls hl hP hD hS)
theorem g_ldc2 {x : Nat} {v : Int64} (hw : Cond.constantLong I.2.1 x v ∈ wsA) (hd : DD I.1 pc (.ldc2_w x) 3 n) (k : G p l e R s m args below meth c D cy ad A I post n L (.long v :: S) st) : G p l e R s m args below meth c D cy ad A I post pc L (S) st := by
  obtain ⟨h1, h2⟩ := hd
  subst h2
  exact fun h H locs ls hl hP hD hS => lv_ldc2 h.1 h.2.1 h.2.2.2.2.2.1 (h.2.2.2.2.2.2.1 _ hw) h1 (k h H locs ls hl hP hD hS)
theorem g_iload_n {k4 : Fin 4} {x : Int32} (hi : L[(k4 : Nat)]? = some (some (.int x))) (hd : DD I.1 pc (.iload_n k4) 1 n) (k : G p l e R s m args below meth c D cy ad A I post n L (.int x :: S) st) : G p l e R s m args below meth c D cy ad A I post pc L (S) st := by
  obtain ⟨h1, h2⟩ := hd
  subst h2
  exact fun h H locs ls hl hP hD hS => lv_iload_n h.1 h.2.1 h1 rfl (pv_at hl hi) (k h H locs ls hl hP hD hS)
theorem g_iload {i : Nat} {x : Int32} (hi : L[i]? = some (some (.int x))) (hd : DD I.1 pc (.iload i) 2 n) (k : G p l e R s m args below meth c D cy ad A I post n L (.int x :: S) st) : G p l e R s m args below meth c D cy ad A I post pc L (S) st := by
  obtain ⟨h1, h2⟩ := hd
  subst h2
  exact fun h H locs ls hl hP hD hS => lv_iload h.1 h.2.1 h1 (pv_at hl hi) (k h H locs ls hl hP hD hS)
theorem g_lload_n {k4 : Fin 4} {x : Int64} (hi : L[(k4 : Nat)]? = some (some (.long x))) (hd : DD I.1 pc (.lload_n k4) 1 n) (k : G p l e R s m args below meth c D cy ad A I post n L (.long x :: S) st) : G p l e R s m args below meth c D cy ad A I post pc L (S) st := by
  obtain ⟨h1, h2⟩ := hd
  subst h2
  exact fun h H locs ls hl hP hD hS => lv_lload_n h.1 h.2.1 h1 rfl (pv_at hl hi) (k h H locs ls hl hP hD hS)
theorem g_lload {i : Nat} {x : Int64} (hi : L[i]? = some (some (.long x))) (hd : DD I.1 pc (.lload i) 2 n) (k : G p l e R s m args below meth c D cy ad A I post n L (.long x :: S) st) : G p l e R s m args below meth c D cy ad A I post pc L (S) st := by
  obtain ⟨h1, h2⟩ := hd
  subst h2
  exact fun h H locs ls hl hP hD hS => lv_lload h.1 h.2.1 h1 (pv_at hl hi) (k h H locs ls hl hP hD hS)
theorem g_aload_n {k4 : Fin 4} {x : Nat} (hi : L[(k4 : Nat)]? = some (some (.ref x))) (hd : DD I.1 pc (.aload_n k4) 1 n) (k : G p l e R s m args below meth c D cy ad A I post n L (.ref x :: S) st) : G p l e R s m args below meth c D cy ad A I post pc L (S) st := by
  obtain ⟨h1, h2⟩ := hd
  subst h2
  exact fun h H locs ls hl hP hD hS => lv_aload_n h.1 h.2.1 h1 rfl (pv_at hl hi) (k h H locs ls hl hP hD hS)
theorem g_aload {i : Nat} {x : Nat} (hi : L[i]? = some (some (.ref x))) (hd : DD I.1 pc (.aload i) 2 n) (k : G p l e R s m args below meth c D cy ad A I post n L (.ref x :: S) st) : G p l e R s m args below meth c D cy ad A I post pc L (S) st := by
  obtain ⟨h1, h2⟩ := hd
  subst h2
  exact fun h H locs ls hl hP hD hS => lv_aload h.1 h.2.1 h1 (pv_at hl hi) (k h H locs ls hl hP hD hS)
theorem g_istore_n {k4 : Fin 4} {x : Int32} {L2 : List (Option Value)} (hb : nlb L (k4 : Nat) = true) (hn : (k4 : Nat) < I.2.2.1) (hL : L.set (k4 : Nat) (some (.int x)) = L2) (hd : DD I.1 pc (.istore_n k4) 1 n) (k : G p l e R s m args below meth c D cy ad A I post n L2 S st) : G p l e R s m args below meth c D cy ad A I post pc L (.int x :: S) st := by
  obtain ⟨h1, h2⟩ := hd
  subst h2
  subst hL
  exact fun h H locs ls hl hP hD hS => lv_istore_n h.1 h.2.1 h1 rfl hl hn rfl (fun ls2 hl2 => k h H locs ls2 (lv_more hl2 (pv_set1 hb)) hP hD hS)
theorem g_istore {i : Nat} {x : Int32} {L2 : List (Option Value)} (hb : nlb L i = true) (hn : i < I.2.2.1) (hL : L.set i (some (.int x)) = L2) (hd : DD I.1 pc (.istore i) 2 n) (k : G p l e R s m args below meth c D cy ad A I post n L2 S st) : G p l e R s m args below meth c D cy ad A I post pc L (.int x :: S) st := by
  obtain ⟨h1, h2⟩ := hd
  subst h2
  subst hL
  exact fun h H locs ls hl hP hD hS => lv_istore h.1 h.2.1 h1 hl hn rfl (fun ls2 hl2 => k h H locs ls2 (lv_more hl2 (pv_set1 hb)) hP hD hS)
theorem g_lstore_n {k4 : Fin 4} {x : Int64} {L2 : List (Option Value)} (hb : nlb L (k4 : Nat) = true) (hn : (k4 : Nat) + 1 < I.2.2.1) (h2n : L[(k4 : Nat) + 1]? = some none) (hL : L.set (k4 : Nat) (some (.long x)) = L2) (hd : DD I.1 pc (.lstore_n k4) 1 n) (k : G p l e R s m args below meth c D cy ad A I post n L2 S st) : G p l e R s m args below meth c D cy ad A I post pc L (.long x :: S) st := by
  obtain ⟨h1, h2⟩ := hd
  subst h2
  subst hL
  exact fun h H locs ls hl hP hD hS => lv_lstore_n h.1 h.2.1 h1 rfl hl hn rfl (fun ls2 hl2 => k h H locs ls2 (lv_more hl2 (pv_set2 hb h2n)) hP hD hS)
theorem g_lstore {i : Nat} {x : Int64} {L2 : List (Option Value)} (hb : nlb L i = true) (hn : i + 1 < I.2.2.1) (h2n : L[i + 1]? = some none) (hL : L.set i (some (.long x)) = L2) (hd : DD I.1 pc (.lstore i) 2 n) (k : G p l e R s m args below meth c D cy ad A I post n L2 S st) : G p l e R s m args below meth c D cy ad A I post pc L (.long x :: S) st := by
  obtain ⟨h1, h2⟩ := hd
  subst h2
  subst hL
  exact fun h H locs ls hl hP hD hS => lv_lstore h.1 h.2.1 h1 hl hn rfl (fun ls2 hl2 => k h H locs ls2 (lv_more hl2 (pv_set2 hb h2n)) hP hD hS)
theorem g_astore_n {k4 : Fin 4} {x : Nat} {L2 : List (Option Value)} (hb : nlb L (k4 : Nat) = true) (hn : (k4 : Nat) < I.2.2.1) (hL : L.set (k4 : Nat) (some (.ref x)) = L2) (hd : DD I.1 pc (.astore_n k4) 1 n) (k : G p l e R s m args below meth c D cy ad A I post n L2 S st) : G p l e R s m args below meth c D cy ad A I post pc L (.ref x :: S) st := by
  obtain ⟨h1, h2⟩ := hd
  subst h2
  subst hL
  exact fun h H locs ls hl hP hD hS => lv_astore_n h.1 h.2.1 h1 rfl hl hn rfl (fun ls2 hl2 => k h H locs ls2 (lv_more hl2 (pv_set1 hb)) hP hD hS)
theorem g_astore {i : Nat} {x : Nat} {L2 : List (Option Value)} (hb : nlb L i = true) (hn : i < I.2.2.1) (hL : L.set i (some (.ref x)) = L2) (hd : DD I.1 pc (.astore i) 2 n) (k : G p l e R s m args below meth c D cy ad A I post n L2 S st) : G p l e R s m args below meth c D cy ad A I post pc L (.ref x :: S) st := by
  obtain ⟨h1, h2⟩ := hd
  subst h2
  subst hL
  exact fun h H locs ls hl hP hD hS => lv_astore h.1 h.2.1 h1 hl hn rfl (fun ls2 hl2 => k h H locs ls2 (lv_more hl2 (pv_set1 hb)) hP hD hS)
theorem g_iinc {i : Nat} {z : Int} {x v : Int32} {L2 : List (Option Value)} (hb : nlb L i = true) (hn : i < I.2.2.1) (hi : L[i]? = some (some (.int x))) (hv : x + Int32.ofInt z = v) (hL : L.set i (some (.int v)) = L2) (hd : DD I.1 pc (.iinc i z) 3 n) (k : G p l e R s m args below meth c D cy ad A I post n L2 S st) : G p l e R s m args below meth c D cy ad A I post pc L S st := by
  obtain ⟨h1, h2⟩ := hd
  subst h2
  subst hL
  intro h H locs ls hl hP hD hS
  have hm : (i, Value.int x) ∈ pv ad 0 L := pv_in.mpr ⟨i, _, hi, by simp [cv]⟩
  obtain ⟨k9, hk9⟩ := List.getElem?_of_mem hm
  exact lv_iinc h.1 h.2.1 h1 hl hk9 hv hn rfl (fun ls2 hl2 => k h H locs ls2 (lv_more hl2 (pv_set1 hb)) hP hD hS)
theorem g_iadd {x y : Int32} (hd : DD I.1 pc .iadd 1 n) (k : G p l e R s m args below meth c D cy ad A I post n L (.int (x + y) :: S) st) : G p l e R s m args below meth c D cy ad A I post pc L (.int y :: .int x :: S) st := by
  obtain ⟨h1, h2⟩ := hd
  subst h2
  exact fun h H locs ls hl hP hD hS => lv_iadd h.1 h.2.1 h1 (k h H locs ls hl hP hD hS)
theorem g_isub {x y : Int32} (hd : DD I.1 pc .isub 1 n) (k : G p l e R s m args below meth c D cy ad A I post n L (.int (x - y) :: S) st) : G p l e R s m args below meth c D cy ad A I post pc L (.int y :: .int x :: S) st := by
  obtain ⟨h1, h2⟩ := hd
  subst h2
  exact fun h H locs ls hl hP hD hS => lv_isub h.1 h.2.1 h1 (k h H locs ls hl hP hD hS)
theorem g_imul {x y : Int32} (hd : DD I.1 pc .imul 1 n) (k : G p l e R s m args below meth c D cy ad A I post n L (.int (x * y) :: S) st) : G p l e R s m args below meth c D cy ad A I post pc L (.int y :: .int x :: S) st := by
  obtain ⟨h1, h2⟩ := hd
  subst h2
  exact fun h H locs ls hl hP hD hS => lv_imul h.1 h.2.1 h1 (k h H locs ls hl hP hD hS)
theorem g_iand {x y : Int32} (hd : DD I.1 pc .iand 1 n) (k : G p l e R s m args below meth c D cy ad A I post n L (.int (x &&& y) :: S) st) : G p l e R s m args below meth c D cy ad A I post pc L (.int y :: .int x :: S) st := by
  obtain ⟨h1, h2⟩ := hd
  subst h2
  exact fun h H locs ls hl hP hD hS => lv_iand h.1 h.2.1 h1 (k h H locs ls hl hP hD hS)
theorem g_ior {x y : Int32} (hd : DD I.1 pc .ior 1 n) (k : G p l e R s m args below meth c D cy ad A I post n L (.int (x ||| y) :: S) st) : G p l e R s m args below meth c D cy ad A I post pc L (.int y :: .int x :: S) st := by
  obtain ⟨h1, h2⟩ := hd
  subst h2
  exact fun h H locs ls hl hP hD hS => lv_ior h.1 h.2.1 h1 (k h H locs ls hl hP hD hS)
theorem g_ixor {x y : Int32} (hd : DD I.1 pc .ixor 1 n) (k : G p l e R s m args below meth c D cy ad A I post n L (.int (x ^^^ y) :: S) st) : G p l e R s m args below meth c D cy ad A I post pc L (.int y :: .int x :: S) st := by
  obtain ⟨h1, h2⟩ := hd
  subst h2
  exact fun h H locs ls hl hP hD hS => lv_ixor h.1 h.2.1 h1 (k h H locs ls hl hP hD hS)
theorem g_ishl {x y : Int32} (hd : DD I.1 pc .ishl 1 n) (k : G p l e R s m args below meth c D cy ad A I post n L (.int (x <<< (y &&& 31)) :: S) st) : G p l e R s m args below meth c D cy ad A I post pc L (.int y :: .int x :: S) st := by
  obtain ⟨h1, h2⟩ := hd
  subst h2
  exact fun h H locs ls hl hP hD hS => lv_ishl h.1 h.2.1 h1 (k h H locs ls hl hP hD hS)
theorem g_ishr {x y : Int32} (hd : DD I.1 pc .ishr 1 n) (k : G p l e R s m args below meth c D cy ad A I post n L (.int (x >>> (y &&& 31)) :: S) st) : G p l e R s m args below meth c D cy ad A I post pc L (.int y :: .int x :: S) st := by
  obtain ⟨h1, h2⟩ := hd
  subst h2
  exact fun h H locs ls hl hP hD hS => lv_ishr h.1 h.2.1 h1 (k h H locs ls hl hP hD hS)
theorem g_ladd {x y : Int64} (hd : DD I.1 pc .ladd 1 n) (k : G p l e R s m args below meth c D cy ad A I post n L (.long (x + y) :: S) st) : G p l e R s m args below meth c D cy ad A I post pc L (.long y :: .long x :: S) st := by
  obtain ⟨h1, h2⟩ := hd
  subst h2
  exact fun h H locs ls hl hP hD hS => lv_ladd h.1 h.2.1 h1 (k h H locs ls hl hP hD hS)
theorem g_lsub {x y : Int64} (hd : DD I.1 pc .lsub 1 n) (k : G p l e R s m args below meth c D cy ad A I post n L (.long (x - y) :: S) st) : G p l e R s m args below meth c D cy ad A I post pc L (.long y :: .long x :: S) st := by
  obtain ⟨h1, h2⟩ := hd
  subst h2
  exact fun h H locs ls hl hP hD hS => lv_lsub h.1 h.2.1 h1 (k h H locs ls hl hP hD hS)
theorem g_lmul {x y : Int64} (hd : DD I.1 pc .lmul 1 n) (k : G p l e R s m args below meth c D cy ad A I post n L (.long (x * y) :: S) st) : G p l e R s m args below meth c D cy ad A I post pc L (.long y :: .long x :: S) st := by
  obtain ⟨h1, h2⟩ := hd
  subst h2
  exact fun h H locs ls hl hP hD hS => lv_lmul h.1 h.2.1 h1 (k h H locs ls hl hP hD hS)
theorem g_iushr {x y : Int32} (hd : DD I.1 pc .iushr 1 n) (k : G p l e R s m args below meth c D cy ad A I post n L (.int ((x.toUInt32 >>> (y.toUInt32 &&& Int32.toUInt32 31)).toInt32) :: S) st) : G p l e R s m args below meth c D cy ad A I post pc L (.int y :: .int x :: S) st := by
  obtain ⟨h1, h2⟩ := hd
  subst h2
  exact fun h H locs ls hl hP hD hS => lv_iushr h.1 h.2.1 h1 rfl (k h H locs ls hl hP hD hS)
theorem g_idiv {x y : Int32} (hne : ¬ y = 0) (hd : DD I.1 pc .idiv 1 n) (k : G p l e R s m args below meth c D cy ad A I post n L (.int (x / y) :: S) st) : G p l e R s m args below meth c D cy ad A I post pc L (.int y :: .int x :: S) st := by
  obtain ⟨h1, h2⟩ := hd
  subst h2
  exact fun h H locs ls hl hP hD hS => lv_idiv h.1 h.2.1 h1 hne (k h H locs ls hl hP hD hS)
theorem g_irem {x y : Int32} (hne : ¬ y = 0) (hd : DD I.1 pc .irem 1 n) (k : G p l e R s m args below meth c D cy ad A I post n L (.int (x - x / y * y) :: S) st) : G p l e R s m args below meth c D cy ad A I post pc L (.int y :: .int x :: S) st := by
  obtain ⟨h1, h2⟩ := hd
  subst h2
  exact fun h H locs ls hl hP hD hS => lv_irem h.1 h.2.1 h1 hne (k h H locs ls hl hP hD hS)
theorem g_ldiv {x y : Int64} (hne : ¬ y = 0) (hd : DD I.1 pc .ldiv 1 n) (k : G p l e R s m args below meth c D cy ad A I post n L (.long (x / y) :: S) st) : G p l e R s m args below meth c D cy ad A I post pc L (.long y :: .long x :: S) st := by
  obtain ⟨h1, h2⟩ := hd
  subst h2
  exact fun h H locs ls hl hP hD hS => lv_ldiv h.1 h.2.1 h1 hne (k h H locs ls hl hP hD hS)
theorem g_lrem {x y : Int64} (hne : ¬ y = 0) (hd : DD I.1 pc .lrem 1 n) (k : G p l e R s m args below meth c D cy ad A I post n L (.long (x - x / y * y) :: S) st) : G p l e R s m args below meth c D cy ad A I post pc L (.long y :: .long x :: S) st := by
  obtain ⟨h1, h2⟩ := hd
  subst h2
  exact fun h H locs ls hl hP hD hS => lv_lrem h.1 h.2.1 h1 hne (k h H locs ls hl hP hD hS)
theorem g_ineg {x : Int32} (hd : DD I.1 pc .ineg 1 n) (k : G p l e R s m args below meth c D cy ad A I post n L (.int (-x) :: S) st) : G p l e R s m args below meth c D cy ad A I post pc L (.int x :: S) st := by
  obtain ⟨h1, h2⟩ := hd
  subst h2
  exact fun h H locs ls hl hP hD hS => lv_ineg h.1 h.2.1 h1 (k h H locs ls hl hP hD hS)
theorem g_lneg {x : Int64} (hd : DD I.1 pc .lneg 1 n) (k : G p l e R s m args below meth c D cy ad A I post n L (.long (-x) :: S) st) : G p l e R s m args below meth c D cy ad A I post pc L (.long x :: S) st := by
  obtain ⟨h1, h2⟩ := hd
  subst h2
  exact fun h H locs ls hl hP hD hS => lv_lneg h.1 h.2.1 h1 (k h H locs ls hl hP hD hS)
theorem g_i2l {x : Int32} (hd : DD I.1 pc .i2l 1 n) (k : G p l e R s m args below meth c D cy ad A I post n L (.long x.toInt64 :: S) st) : G p l e R s m args below meth c D cy ad A I post pc L (.int x :: S) st := by
  obtain ⟨h1, h2⟩ := hd
  subst h2
  exact fun h H locs ls hl hP hD hS => lv_i2l h.1 h.2.1 h1 rfl (k h H locs ls hl hP hD hS)
theorem g_l2i {x : Int64} (hd : DD I.1 pc .l2i 1 n) (k : G p l e R s m args below meth c D cy ad A I post n L (.int x.toInt32 :: S) st) : G p l e R s m args below meth c D cy ad A I post pc L (.long x :: S) st := by
  obtain ⟨h1, h2⟩ := hd
  subst h2
  exact fun h H locs ls hl hP hD hS => lv_l2i h.1 h.2.1 h1 rfl (k h H locs ls hl hP hD hS)
theorem g_i2b {x : Int32} (hd : DD I.1 pc .i2b 1 n) (k : G p l e R s m args below meth c D cy ad A I post n L (.int x.toInt8.toInt32 :: S) st) : G p l e R s m args below meth c D cy ad A I post pc L (.int x :: S) st := by
  obtain ⟨h1, h2⟩ := hd
  subst h2
  exact fun h H locs ls hl hP hD hS => lv_i2b h.1 h.2.1 h1 rfl (k h H locs ls hl hP hD hS)
theorem g_i2c {x : Int32} (hd : DD I.1 pc .i2c 1 n) (k : G p l e R s m args below meth c D cy ad A I post n L (.int (x.toUInt32 % 65536).toInt32 :: S) st) : G p l e R s m args below meth c D cy ad A I post pc L (.int x :: S) st := by
  obtain ⟨h1, h2⟩ := hd
  subst h2
  exact fun h H locs ls hl hP hD hS => lv_i2c h.1 h.2.1 h1 rfl (k h H locs ls hl hP hD hS)
theorem g_lcmp {x y : Int64} (hd : DD I.1 pc .lcmp 1 n) (k : G p l e R s m args below meth c D cy ad A I post n L (.int (lg_cmp x y) :: S) st) : G p l e R s m args below meth c D cy ad A I post pc L (.long y :: .long x :: S) st := by
  obtain ⟨h1, h2⟩ := hd
  subst h2
  exact fun h H locs ls hl hP hD hS => W.lcmp h.1 h.2.1 h1 (k h H locs ls hl hP hD hS)
theorem g_dup {v : Value} (hc : v.category = 1) (hd : DD I.1 pc .dup 1 n) (k : G p l e R s m args below meth c D cy ad A I post n L (v :: v :: S) st) : G p l e R s m args below meth c D cy ad A I post pc L (v :: S) st := by
  obtain ⟨h1, h2⟩ := hd
  subst h2
  exact fun h H locs ls hl hP hD hS => lv_dup h.1 h.2.1 h1 ((cv_cat ad v).trans hc) (k h H locs ls hl hP hD hS)
theorem g_pop {v : Value} (hc : v.category = 1) (hd : DD I.1 pc .pop 1 n) (k : G p l e R s m args below meth c D cy ad A I post n L (S) st) : G p l e R s m args below meth c D cy ad A I post pc L (v :: S) st := by
  obtain ⟨h1, h2⟩ := hd
  subst h2
  exact fun h H locs ls hl hP hD hS => lv_pop h.1 h.2.1 h1 ((cv_cat ad v).trans hc) (k h H locs ls hl hP hD hS)
theorem g_dup2 {v w : Value} (hc : v.category = 1) (hc2 : w.category = 1) (hd : DD I.1 pc .dup2 1 n) (k : G p l e R s m args below meth c D cy ad A I post n L (v :: w :: v :: w :: S) st) : G p l e R s m args below meth c D cy ad A I post pc L (v :: w :: S) st := by
  obtain ⟨h1, h2⟩ := hd
  subst h2
  exact fun h H locs ls hl hP hD hS => lv_dup2_11 h.1 h.2.1 h1 ((cv_cat ad v).trans hc) ((cv_cat ad w).trans hc2) (k h H locs ls hl hP hD hS)
theorem g_if_eq {x : Int32} {z : Int} {tgt : Nat} (hd : DB I.1 pc (.ifCond .eq z) z n tgt) (kt : x = 0 → G p l e R s m args below meth c D cy ad A I post tgt L S st) (kf : ¬ x = 0 → G p l e R s m args below meth c D cy ad A I post n L S st) : G p l e R s m args below meth c D cy ad A I post pc L (.int x :: S) st := by
  obtain ⟨h1, h2, h3⟩ := hd
  subst h2
  exact fun h H locs ls hl hP hD hS => lv_if_eq h.1 h.2.1 h1 h3 (fun q => kt q h H locs ls hl hP hD hS) (fun q => kf q h H locs ls hl hP hD hS)
theorem g_icmp_eq {x y : Int32} {z : Int} {tgt : Nat} (hd : DB I.1 pc (.if_icmp .eq z) z n tgt) (kt : x = y → G p l e R s m args below meth c D cy ad A I post tgt L S st) (kf : ¬ x = y → G p l e R s m args below meth c D cy ad A I post n L S st) : G p l e R s m args below meth c D cy ad A I post pc L (.int y :: .int x :: S) st := by
  obtain ⟨h1, h2, h3⟩ := hd
  subst h2
  exact fun h H locs ls hl hP hD hS => lv_icmp_eq h.1 h.2.1 h1 h3 (fun q => kt q h H locs ls hl hP hD hS) (fun q => kf q h H locs ls hl hP hD hS)
theorem g_if_ne {x : Int32} {z : Int} {tgt : Nat} (hd : DB I.1 pc (.ifCond .ne z) z n tgt) (kt : ¬ x = 0 → G p l e R s m args below meth c D cy ad A I post tgt L S st) (kf : x = 0 → G p l e R s m args below meth c D cy ad A I post n L S st) : G p l e R s m args below meth c D cy ad A I post pc L (.int x :: S) st := by
  obtain ⟨h1, h2, h3⟩ := hd
  subst h2
  exact fun h H locs ls hl hP hD hS => lv_if_ne h.1 h.2.1 h1 h3 (fun q => kt q h H locs ls hl hP hD hS) (fun q => kf q h H locs ls hl hP hD hS)
theorem g_icmp_ne {x y : Int32} {z : Int} {tgt : Nat} (hd : DB I.1 pc (.if_icmp .ne z) z n tgt) (kt : ¬ x = y → G p l e R s m args below meth c D cy ad A I post tgt L S st) (kf : x = y → G p l e R s m args below meth c D cy ad A I post n L S st) : G p l e R s m args below meth c D cy ad A I post pc L (.int y :: .int x :: S) st := by
  obtain ⟨h1, h2, h3⟩ := hd
  subst h2
  exact fun h H locs ls hl hP hD hS => lv_icmp_ne h.1 h.2.1 h1 h3 (fun q => kt q h H locs ls hl hP hD hS) (fun q => kf q h H locs ls hl hP hD hS)
theorem g_if_lt {x : Int32} {z : Int} {tgt : Nat} (hd : DB I.1 pc (.ifCond .lt z) z n tgt) (kt : x < 0 → G p l e R s m args below meth c D cy ad A I post tgt L S st) (kf : ¬ x < 0 → G p l e R s m args below meth c D cy ad A I post n L S st) : G p l e R s m args below meth c D cy ad A I post pc L (.int x :: S) st := by
  obtain ⟨h1, h2, h3⟩ := hd
  subst h2
  exact fun h H locs ls hl hP hD hS => lv_if_lt h.1 h.2.1 h1 h3 (fun q => kt q h H locs ls hl hP hD hS) (fun q => kf q h H locs ls hl hP hD hS)
theorem g_icmp_lt {x y : Int32} {z : Int} {tgt : Nat} (hd : DB I.1 pc (.if_icmp .lt z) z n tgt) (kt : x < y → G p l e R s m args below meth c D cy ad A I post tgt L S st) (kf : ¬ x < y → G p l e R s m args below meth c D cy ad A I post n L S st) : G p l e R s m args below meth c D cy ad A I post pc L (.int y :: .int x :: S) st := by
  obtain ⟨h1, h2, h3⟩ := hd
  subst h2
  exact fun h H locs ls hl hP hD hS => lv_icmp_lt h.1 h.2.1 h1 h3 (fun q => kt q h H locs ls hl hP hD hS) (fun q => kf q h H locs ls hl hP hD hS)
theorem g_if_ge {x : Int32} {z : Int} {tgt : Nat} (hd : DB I.1 pc (.ifCond .ge z) z n tgt) (kt : 0 ≤ x → G p l e R s m args below meth c D cy ad A I post tgt L S st) (kf : ¬ 0 ≤ x → G p l e R s m args below meth c D cy ad A I post n L S st) : G p l e R s m args below meth c D cy ad A I post pc L (.int x :: S) st := by
  obtain ⟨h1, h2, h3⟩ := hd
  subst h2
  exact fun h H locs ls hl hP hD hS => lv_if_ge h.1 h.2.1 h1 h3 (fun q => kt q h H locs ls hl hP hD hS) (fun q => kf q h H locs ls hl hP hD hS)
theorem g_icmp_ge {x y : Int32} {z : Int} {tgt : Nat} (hd : DB I.1 pc (.if_icmp .ge z) z n tgt) (kt : y ≤ x → G p l e R s m args below meth c D cy ad A I post tgt L S st) (kf : ¬ y ≤ x → G p l e R s m args below meth c D cy ad A I post n L S st) : G p l e R s m args below meth c D cy ad A I post pc L (.int y :: .int x :: S) st := by
  obtain ⟨h1, h2, h3⟩ := hd
  subst h2
  exact fun h H locs ls hl hP hD hS => lv_icmp_ge h.1 h.2.1 h1 h3 (fun q => kt q h H locs ls hl hP hD hS) (fun q => kf q h H locs ls hl hP hD hS)
theorem g_if_gt {x : Int32} {z : Int} {tgt : Nat} (hd : DB I.1 pc (.ifCond .gt z) z n tgt) (kt : 0 < x → G p l e R s m args below meth c D cy ad A I post tgt L S st) (kf : ¬ 0 < x → G p l e R s m args below meth c D cy ad A I post n L S st) : G p l e R s m args below meth c D cy ad A I post pc L (.int x :: S) st := by
  obtain ⟨h1, h2, h3⟩ := hd
  subst h2
  exact fun h H locs ls hl hP hD hS => lv_if_gt h.1 h.2.1 h1 h3 (fun q => kt q h H locs ls hl hP hD hS) (fun q => kf q h H locs ls hl hP hD hS)
theorem g_icmp_gt {x y : Int32} {z : Int} {tgt : Nat} (hd : DB I.1 pc (.if_icmp .gt z) z n tgt) (kt : y < x → G p l e R s m args below meth c D cy ad A I post tgt L S st) (kf : ¬ y < x → G p l e R s m args below meth c D cy ad A I post n L S st) : G p l e R s m args below meth c D cy ad A I post pc L (.int y :: .int x :: S) st := by
  obtain ⟨h1, h2, h3⟩ := hd
  subst h2
  exact fun h H locs ls hl hP hD hS => lv_icmp_gt h.1 h.2.1 h1 h3 (fun q => kt q h H locs ls hl hP hD hS) (fun q => kf q h H locs ls hl hP hD hS)
theorem g_if_le {x : Int32} {z : Int} {tgt : Nat} (hd : DB I.1 pc (.ifCond .le z) z n tgt) (kt : x ≤ 0 → G p l e R s m args below meth c D cy ad A I post tgt L S st) (kf : ¬ x ≤ 0 → G p l e R s m args below meth c D cy ad A I post n L S st) : G p l e R s m args below meth c D cy ad A I post pc L (.int x :: S) st := by
  obtain ⟨h1, h2, h3⟩ := hd
  subst h2
  exact fun h H locs ls hl hP hD hS => lv_if_le h.1 h.2.1 h1 h3 (fun q => kt q h H locs ls hl hP hD hS) (fun q => kf q h H locs ls hl hP hD hS)
theorem g_icmp_le {x y : Int32} {z : Int} {tgt : Nat} (hd : DB I.1 pc (.if_icmp .le z) z n tgt) (kt : x ≤ y → G p l e R s m args below meth c D cy ad A I post tgt L S st) (kf : ¬ x ≤ y → G p l e R s m args below meth c D cy ad A I post n L S st) : G p l e R s m args below meth c D cy ad A I post pc L (.int y :: .int x :: S) st := by
  obtain ⟨h1, h2, h3⟩ := hd
  subst h2
  exact fun h H locs ls hl hP hD hS => lv_icmp_le h.1 h.2.1 h1 h3 (fun q => kt q h H locs ls hl hP hD hS) (fun q => kf q h H locs ls hl hP hD hS)
theorem g_goto {z : Int} {tgt : Nat} (hd : DB I.1 pc (.goto z) z n tgt) (k : G p l e R s m args below meth c D cy ad A I post tgt L S st) : G p l e R s m args below meth c D cy ad A I post pc L S st := by
  obtain ⟨h1, h2, h3⟩ := hd
  exact fun h H locs ls hl hP hD hS => lv_goto h.1 h.2.1 h1 h3 (k h H locs ls hl hP hD hS)
theorem g_tableOut {z lo hi : Int} {offs : Array Int} {len tgt : Nat} {x : Int32} (hd : decode I.1 pc = .ok (.tableswitch z lo hi offs, len)) (hx : x.toInt < lo ∨ hi < x.toInt) (ht : (pc : Int) + z = (tgt : Int)) (k : G p l e R s m args below meth c D cy ad A I post tgt L S st) : G p l e R s m args below meth c D cy ad A I post pc L (.int x :: S) st :=
  fun h H locs ls hl hP hD hS => lv_tableOut h.1 h.2.1 hd hx ht (k h H locs ls hl hP hD hS)
theorem g_tableIn {z lo hi off : Int} {offs : Array Int} {len tgt : Nat} {x : Int32} (hd : decode I.1 pc = .ok (.tableswitch z lo hi offs, len)) (h1 : ¬ x.toInt < lo) (h2 : ¬ hi < x.toInt) (ho : offs[(x.toInt - lo).toNat]? = some off) (ht : (pc : Int) + off = (tgt : Int)) (k : G p l e R s m args below meth c D cy ad A I post tgt L S st) : G p l e R s m args below meth c D cy ad A I post pc L (.int x :: S) st :=
  fun h H locs ls hl hP hD hS => lv_tableIn h.1 h.2.1 hd h1 h2 ho ht (k h H locs ls hl hP hD hS)
theorem g_lookup {z off : Int} {ps : Array (Int × Int)} {len tgt : Nat} {x : Int32} (hd : decode I.1 pc = .ok (.lookupswitch z ps, len)) (hp : (ps.toList.zip (ps.toList.drop 1)).all (fun (a, next) => a.1 < next.1) = true) (ho : Op.lookupswitch.offset ps.toList z x.toInt = off) (ht : (pc : Int) + off = (tgt : Int)) (k : G p l e R s m args below meth c D cy ad A I post tgt L S st) : G p l e R s m args below meth c D cy ad A I post pc L (.int x :: S) st :=
  fun h H locs ls hl hP hD hS => lv_lookup h.1 h.2.1 hd hp ho ht (k h H locs ls hl hP hD hS)
theorem lays_in : ∀ c, c < 12 → ∀ w ∈ u_ws (RC c) (TC c) (nFc c), w ∈ wsA := fun c hc => match c, hc with
  | 0, _ => fun w h => List.mem_filter.mpr ⟨by revert w; decide +kernel, by revert w; decide +kernel⟩
  | 1, _ => fun w h => List.mem_filter.mpr ⟨by revert w; decide +kernel, by revert w; decide +kernel⟩
  | 2, _ => fun w h => List.mem_filter.mpr ⟨by revert w; decide +kernel, by revert w; decide +kernel⟩
  | 3, _ => fun w h => List.mem_filter.mpr ⟨by revert w; decide +kernel, by revert w; decide +kernel⟩
  | 4, _ => fun w h => List.mem_filter.mpr ⟨by revert w; decide +kernel, by revert w; decide +kernel⟩
  | 5, _ => fun w h => List.mem_filter.mpr ⟨by revert w; decide +kernel, by revert w; decide +kernel⟩
  | 6, _ => fun w h => List.mem_filter.mpr ⟨by revert w; decide +kernel, by revert w; decide +kernel⟩
  | 7, _ => fun w h => List.mem_filter.mpr ⟨by revert w; decide +kernel, by revert w; decide +kernel⟩
  | 8, _ => fun w h => List.mem_filter.mpr ⟨by revert w; decide +kernel, by revert w; decide +kernel⟩
  | 9, _ => fun w h => List.mem_filter.mpr ⟨by revert w; decide +kernel, by revert w; decide +kernel⟩
  | 10, _ => fun w h => List.mem_filter.mpr ⟨by revert w; decide +kernel, by revert w; decide +kernel⟩
  | 11, _ => fun w h => List.mem_filter.mpr ⟨by revert w; decide +kernel, by revert w; decide +kernel⟩
  | n + 12, h => absurd h (by omega)
theorem hsame_r (C n d : String) {s : State} : ∀ x, s.fieldFound? C n d = some x → s.fieldFound? C n d = some x := fun _ h => h
theorem decl_ok : ∀ c, c < 12 → ∀ j, j < nFc c → (TC c j).1 = RC c := by decide +kernel
theorem g_getI {k j x ci : Nat} (hk : kd k = ci) (hN : k < N0) (hc : ci < 12) (hj : j < nFc ci) (ht : isI (tyC ci j) = true) (hw : Cond.fieldLink I.2.1 x (RC ci) (TC ci j).2.1 (TC ci j).2.2.1 ∈ wsA) (hd : DD I.1 pc (.getfield x) 3 n) (kk : G p l e R s m args below meth c D cy ad A I post n L (.int (st.1 k j) :: S) st) : G p l e R s m args below meth c D cy ad A I post pc L (.ref k :: S) st := by
  obtain ⟨h1, h2⟩ := hd
  subst h2
  subst hk
  intro h H locs ls hl hP hD hS
  exact va_get (D := D) (v := cv ad (.int (st.1 k j))) h.1 h.2.1 h.2.2.2.2.2.2.1 (lays_in _ hc) h.2.2.2.2.2.1 h.2.2.2.2.2.2.2.1 hP k ((cw_get cy ad st hN).trans (by rw [ce_obj hc])) (cl_at _ hc) j hj (h.2.2.2.2.2.2.1 _ hw) (by rw [decl_ok _ hc j hj]; exact hsame_r _ _ _) (by rw [fs_get ad st hj, fv_i ht]; rfl) h1 (kk h H locs ls hl hP hD hS)
theorem g_getL {k j x ci : Nat} (hk : kd k = ci) (hN : k < N0) (hc : ci < 12) (hj : j < nFc ci) (ht : tyC ci j = .long) (hw : Cond.fieldLink I.2.1 x (RC ci) (TC ci j).2.1 (TC ci j).2.2.1 ∈ wsA) (hd : DD I.1 pc (.getfield x) 3 n) (kk : G p l e R s m args below meth c D cy ad A I post n L (.long (st.2 k j) :: S) st) : G p l e R s m args below meth c D cy ad A I post pc L (.ref k :: S) st := by
  obtain ⟨h1, h2⟩ := hd
  subst h2
  subst hk
  intro h H locs ls hl hP hD hS
  exact va_get (D := D) (v := cv ad (.long (st.2 k j))) h.1 h.2.1 h.2.2.2.2.2.2.1 (lays_in _ hc) h.2.2.2.2.2.1 h.2.2.2.2.2.2.2.1 hP k ((cw_get cy ad st hN).trans (by rw [ce_obj hc])) (cl_at _ hc) j hj (h.2.2.2.2.2.2.1 _ hw) (by rw [decl_ok _ hc j hj]; exact hsame_r _ _ _) (by rw [fs_get ad st hj, ht]; rfl) h1 (kk h H locs ls hl hP hD hS)
theorem g_getR {k j x ci : Nat} (hk : kd k = ci) (hN : k < N0) (hc : ci < 12) (hj : j < nFc ci) {z : Nat} (ht : isR (tyC ci j) = true) (hr : r0 k j = some z) (hw : Cond.fieldLink I.2.1 x (RC ci) (TC ci j).2.1 (TC ci j).2.2.1 ∈ wsA) (hd : DD I.1 pc (.getfield x) 3 n) (kk : G p l e R s m args below meth c D cy ad A I post n L (.ref z :: S) st) : G p l e R s m args below meth c D cy ad A I post pc L (.ref k :: S) st := by
  obtain ⟨h1, h2⟩ := hd
  subst h2
  subst hk
  intro h H locs ls hl hP hD hS
  exact va_get (D := D) (v := cv ad (.ref z)) h.1 h.2.1 h.2.2.2.2.2.2.1 (lays_in _ hc) h.2.2.2.2.2.1 h.2.2.2.2.2.2.2.1 hP k ((cw_get cy ad st hN).trans (by rw [ce_obj hc])) (cl_at _ hc) j hj (h.2.2.2.2.2.2.1 _ hw) (by rw [decl_ok _ hc j hj]; exact hsame_r _ _ _) (by rw [fs_get ad st hj, fv_r ht, hr]; rfl) h1 (kk h H locs ls hl hP hD hS)
theorem g_putI {k j x ci : Nat} {v : Int32} (ht : tyC ci j = .int) (hk : kd k = ci) (hN : k < N0) (hc : ci < 12) (hj : j < nFc ci) (hf : (TC ci j).2.2.2 = false) (hw : Cond.fieldLink I.2.1 x (RC ci) (TC ci j).2.1 (TC ci j).2.2.1 ∈ wsA) (hd : DD I.1 pc (.putfield x) 3 n) (kk : G p l e R s m args below meth c D cy ad A I post n L S (sI st k j v)) : G p l e R s m args below meth c D cy ad A I post pc L (.int v :: .ref k :: S) st := by
  obtain ⟨h1, h2⟩ := hd
  subst h2
  subst hk
  intro h H locs ls hl hP hD hS
  refine va_put (D := D) (v := .int v) (ty := tyC (kd k) j) h.1 h.2.1 h.2.2.2.2.2.2.1 (lays_in _ hc) (tyC (kd k)) (ty_ok _ hc) (nm_ok _ hc) h.2.2.2.2.2.1 h.2.2.2.2.2.2.2.1 hP hD hS k ((cw_get cy ad st hN).trans (by rw [ce_obj hc])) (cl_at _ hc) j hj (h.2.2.2.2.2.2.1 _ hw) (by rw [decl_ok _ hc j hj]; exact hsame_r _ _ _) hf (ty_ok _ hc j hj) (by rw [ht]; rfl) (by rw [ht]; rfl) (by simp [fsOf]; exact hj) h1 (fun H2 locs2 hP2 hD2 hS2 => ?_)
  have e : (cw cy ad st).set k (ad k, .inr (kd k, (fsOf ad st k).set j (.int v))) = cw cy ad (sI st k j v) := cw_set cy ad st _ hN (by rw [ce_obj hc, fs_set ad st (sI st k j v) (by rw [ht]; simp [fv, sI_1]) (fun i hi => fv_other _ (by rw [sI_1, if_neg (fun q => hi q.2)]) rfl) hj]) (fun i _ hi => ce_other (sI_row hi) rfl)
  rw [e] at hP2 hD2
  exact kk h H2 locs2 ls hl hP2 hD2 hS2
theorem g_putZ {k j x ci : Nat} {v : Int32} (ht : tyC ci j = .boolean) (hb : v = 0 ∨ v = 1) (hk : kd k = ci) (hN : k < N0) (hc : ci < 12) (hj : j < nFc ci) (hf : (TC ci j).2.2.2 = false) (hw : Cond.fieldLink I.2.1 x (RC ci) (TC ci j).2.1 (TC ci j).2.2.1 ∈ wsA) (hd : DD I.1 pc (.putfield x) 3 n) (kk : G p l e R s m args below meth c D cy ad A I post n L S (sI st k j v)) : G p l e R s m args below meth c D cy ad A I post pc L (.int v :: .ref k :: S) st := by
  obtain ⟨h1, h2⟩ := hd
  subst h2
  subst hk
  intro h H locs ls hl hP hD hS
  refine va_put (D := D) (v := .int v) (ty := tyC (kd k) j) h.1 h.2.1 h.2.2.2.2.2.2.1 (lays_in _ hc) (tyC (kd k)) (ty_ok _ hc) (nm_ok _ hc) h.2.2.2.2.2.1 h.2.2.2.2.2.2.2.1 hP hD hS k ((cw_get cy ad st hN).trans (by rw [ce_obj hc])) (cl_at _ hc) j hj (h.2.2.2.2.2.2.1 _ hw) (by rw [decl_ok _ hc j hj]; exact hsame_r _ _ _) hf (ty_ok _ hc j hj) (by rw [ht]; rcases hb with rfl | rfl <;> rfl) (by rw [ht]; rcases hb with rfl | rfl <;> rfl) (by simp [fsOf]; exact hj) h1 (fun H2 locs2 hP2 hD2 hS2 => ?_)
  have e : (cw cy ad st).set k (ad k, .inr (kd k, (fsOf ad st k).set j (.int v))) = cw cy ad (sI st k j v) := cw_set cy ad st _ hN (by rw [ce_obj hc, fs_set ad st (sI st k j v) (by rw [ht]; simp [fv, sI_1]) (fun i hi => fv_other _ (by rw [sI_1, if_neg (fun q => hi q.2)]) rfl) hj]) (fun i _ hi => ce_other (sI_row hi) rfl)
  rw [e] at hP2 hD2
  exact kk h H2 locs2 ls hl hP2 hD2 hS2
theorem g_putL {k j x ci : Nat} {v : Int64} (ht : tyC ci j = .long) (hk : kd k = ci) (hN : k < N0) (hc : ci < 12) (hj : j < nFc ci) (hf : (TC ci j).2.2.2 = false) (hw : Cond.fieldLink I.2.1 x (RC ci) (TC ci j).2.1 (TC ci j).2.2.1 ∈ wsA) (hd : DD I.1 pc (.putfield x) 3 n) (kk : G p l e R s m args below meth c D cy ad A I post n L S (sL st k j v)) : G p l e R s m args below meth c D cy ad A I post pc L (.long v :: .ref k :: S) st := by
  obtain ⟨h1, h2⟩ := hd
  subst h2
  subst hk
  intro h H locs ls hl hP hD hS
  refine va_put (D := D) (v := .long v) (ty := tyC (kd k) j) h.1 h.2.1 h.2.2.2.2.2.2.1 (lays_in _ hc) (tyC (kd k)) (ty_ok _ hc) (nm_ok _ hc) h.2.2.2.2.2.1 h.2.2.2.2.2.2.2.1 hP hD hS k ((cw_get cy ad st hN).trans (by rw [ce_obj hc])) (cl_at _ hc) j hj (h.2.2.2.2.2.2.1 _ hw) (by rw [decl_ok _ hc j hj]; exact hsame_r _ _ _) hf (ty_ok _ hc j hj) (by rw [ht]; rfl) (by rw [ht]; rfl) (by simp [fsOf]; exact hj) h1 (fun H2 locs2 hP2 hD2 hS2 => ?_)
  have e : (cw cy ad st).set k (ad k, .inr (kd k, (fsOf ad st k).set j (.long v))) = cw cy ad (sL st k j v) := cw_set cy ad st _ hN (by rw [ce_obj hc, fs_set ad st (sL st k j v) (by rw [ht]; simp [fv, sL_2]) (fun i hi => fv_other _ rfl (by rw [sL_2, if_neg (fun q => hi q.2)])) hj]) (fun i _ hi => ce_other rfl (sL_row hi))
  rw [e] at hP2 hD2
  exact kk h H2 locs2 ls hl hP2 hD2 hS2
theorem pa_i {ad : Nat → Nat} {st : St} {k : Nat} (h : kd k = 12 ∨ kd k = 13 ∨ kd k = 15) : paOf ad st k = .inl (st.1 k) := by
  unfold paOf
  rw [if_neg (by omega), if_pos (by omega)]
theorem pa_l {ad : Nat → Nat} {st : St} {k : Nat} (h : kd k = 14) : paOf ad st k = .inr (.inl (st.2 k)) := by
  unfold paOf
  rw [if_pos h]
theorem pa_r {ad : Nat → Nat} {st : St} {k : Nat} (h : kd k = 16 ∨ kd k = 17) : paOf ad st k = .inr (.inr (.inr (.inr (fun j => (r0 k j).map ad)))) := by
  unfold paOf
  rw [if_neg (by omega), if_neg (by omega)]

theorem g_iald {k : Nat} {i : Int32} (hk : kd k = 13) (hN : k < N0) (hin : vp_in i (ln k)) (hd : DD I.1 pc .iaload 1 n) (kk : G p l e R s m args below meth c D cy ad A I post n L (.int (st.1 k i.toNatClampNeg) :: S) st) : G p l e R s m args below meth c D cy ad A I post pc L (.int i :: .ref k :: S) st := by
  obtain ⟨h1, h2⟩ := hd
  subst h2
  exact fun h H locs ls hl hP hD hS => va_iald h.1 h.2.1 h.2.2.2.2.2.2.2.1 hP k 1 ((cw_get cy ad st hN).trans (by rw [ce_arr (by omega), pa_i (Or.inr (Or.inl hk))])) (by rw [hk]; rfl) hin h1 (kk h H locs ls hl hP hD hS)
theorem g_bald {k : Nat} {i : Int32} (hk : kd k = 12) (hN : k < N0) (hin : vp_in i (ln k)) (hd : DD I.1 pc .baload 1 n) (kk : G p l e R s m args below meth c D cy ad A I post n L (.int (st.1 k i.toNatClampNeg) :: S) st) : G p l e R s m args below meth c D cy ad A I post pc L (.int i :: .ref k :: S) st := by
  obtain ⟨h1, h2⟩ := hd
  subst h2
  exact fun h H locs ls hl hP hD hS => va_bald h.1 h.2.1 h.2.2.2.2.2.2.2.1 hP k 0 ((cw_get cy ad st hN).trans (by rw [ce_arr (by omega), pa_i (Or.inl hk)])) (by rw [hk]; rfl) hin h1 (kk h H locs ls hl hP hD hS)
theorem g_zald {k : Nat} {i : Int32} (hk : kd k = 15) (hN : k < N0) (hin : vp_in i (ln k)) (hd : DD I.1 pc .baload 1 n) (kk : G p l e R s m args below meth c D cy ad A I post n L (.int (st.1 k i.toNatClampNeg) :: S) st) : G p l e R s m args below meth c D cy ad A I post pc L (.int i :: .ref k :: S) st := by
  obtain ⟨h1, h2⟩ := hd
  subst h2
  exact fun h H locs ls hl hP hD hS => va_zald h.1 h.2.1 h.2.2.2.2.2.2.2.1 hP k 3 ((cw_get cy ad st hN).trans (by rw [ce_arr (by omega), pa_i (Or.inr (Or.inr hk))])) (by rw [hk]; rfl) hin h1 (kk h H locs ls hl hP hD hS)
theorem g_lald {k : Nat} {i : Int32} (hk : kd k = 14) (hN : k < N0) (hin : vp_in i (ln k)) (hd : DD I.1 pc .laload 1 n) (kk : G p l e R s m args below meth c D cy ad A I post n L (.long (st.2 k i.toNatClampNeg) :: S) st) : G p l e R s m args below meth c D cy ad A I post pc L (.int i :: .ref k :: S) st := by
  obtain ⟨h1, h2⟩ := hd
  subst h2
  exact fun h H locs ls hl hP hD hS => va_lald h.1 h.2.1 h.2.2.2.2.2.2.2.1 hP k 2 ((cw_get cy ad st hN).trans (by rw [ce_arr (by omega), pa_l hk])) (by rw [hk]; rfl) hin h1 (kk h H locs ls hl hP hD hS)
theorem g_aald {k z : Nat} {i : Int32} (hk : kd k = 16 ∨ kd k = 17) (hN : k < N0) (hin : vp_in i (ln k)) (hr : r0 k i.toNatClampNeg = some z) (hd : DD I.1 pc .aaload 1 n) (kk : G p l e R s m args below meth c D cy ad A I post n L (.ref z :: S) st) : G p l e R s m args below meth c D cy ad A I post pc L (.int i :: .ref k :: S) st := by
  obtain ⟨h1, h2⟩ := hd
  subst h2
  intro h H locs ls hl hP hD hS
  have hc := (cw_get cy ad st hN).trans (by rw [ce_arr (by omega), pa_r hk])
  have hz : va_rf ((r0 k i.toNatClampNeg).map ad) = cv ad (.ref z) := by rw [hr]; rfl
  have k9 := kk h H locs ls hl hP hD hS
  rw [List.map_cons, ← hz] at k9
  rcases hk with hk | hk
  · exact va_aldq (C := "SealedSums$Key") h.1 h.2.1 h.2.2.2.2.2.2.2.1 hP k 4 hc (by rw [hk]; rfl) hin h1 k9
  · exact va_aldq (C := "SealedSums$Program") h.1 h.2.1 h.2.2.2.2.2.2.2.1 hP k 5 hc (by rw [hk]; rfl) hin h1 k9
theorem g_iast {k : Nat} {i : Int32} {x : Int32} (hk : kd k = 13) (hN : k < N0) (hin : vp_in i (ln k)) (hd : DD I.1 pc .iastore 1 n) (kk : G p l e R s m args below meth c D cy ad A I post n L S (sI st k i.toNatClampNeg x)) : G p l e R s m args below meth c D cy ad A I post pc L (.int x :: .int i :: .ref k :: S) st := by
  obtain ⟨h1, h2⟩ := hd
  subst h2
  intro h H locs ls hl hP hD hS
  refine va_iast h.1 h.2.1 h.2.2.2.2.2.2.2.1 hP hD hS k 1 ((cw_get cy ad st hN).trans (by rw [ce_arr (by omega), pa_i (Or.inr (Or.inl hk))])) (by rw [hk]; rfl) hin h1 (fun H2 locs2 hP2 hD2 hS2 => ?_)
  rw [cw_set cy ad st (sI st k i.toNatClampNeg x) hN (by rw [ce_arr (by omega), pa_i (Or.inr (Or.inl hk)), sI_upd] <;> rfl) (fun i _ hi => ce_other (sI_row hi) rfl)] at hP2 hD2
  exact kk h H2 locs2 ls hl hP2 hD2 hS2
theorem g_bast {k : Nat} {i : Int32} {x : Int32} (hk : kd k = 12) (hN : k < N0) (hin : vp_in i (ln k)) (hd : DD I.1 pc .bastore 1 n) (kk : G p l e R s m args below meth c D cy ad A I post n L S (sI st k i.toNatClampNeg x.toInt8.toInt32)) : G p l e R s m args below meth c D cy ad A I post pc L (.int x :: .int i :: .ref k :: S) st := by
  obtain ⟨h1, h2⟩ := hd
  subst h2
  intro h H locs ls hl hP hD hS
  refine va_bast h.1 h.2.1 h.2.2.2.2.2.2.2.1 hP hD hS k 0 ((cw_get cy ad st hN).trans (by rw [ce_arr (by omega), pa_i (Or.inl hk)])) (by rw [hk]; rfl) hin h1 (fun H2 locs2 hP2 hD2 hS2 => ?_)
  rw [cw_set cy ad st (sI st k i.toNatClampNeg x.toInt8.toInt32) hN (by rw [ce_arr (by omega), pa_i (Or.inl hk), sI_upd] <;> rfl) (fun i _ hi => ce_other (sI_row hi) rfl)] at hP2 hD2
  exact kk h H2 locs2 ls hl hP2 hD2 hS2
theorem g_last {k : Nat} {i : Int32} {x : Int64} (hk : kd k = 14) (hN : k < N0) (hin : vp_in i (ln k)) (hd : DD I.1 pc .lastore 1 n) (kk : G p l e R s m args below meth c D cy ad A I post n L S (sL st k i.toNatClampNeg x)) : G p l e R s m args below meth c D cy ad A I post pc L (.long x :: .int i :: .ref k :: S) st := by
  obtain ⟨h1, h2⟩ := hd
  subst h2
  intro h H locs ls hl hP hD hS
  refine va_last h.1 h.2.1 h.2.2.2.2.2.2.2.1 hP hD hS k 2 ((cw_get cy ad st hN).trans (by rw [ce_arr (by omega), pa_l hk])) (by rw [hk]; rfl) hin h1 (fun H2 locs2 hP2 hD2 hS2 => ?_)
  rw [cw_set cy ad st (sL st k i.toNatClampNeg x) hN (by rw [ce_arr (by omega), pa_l hk, sL_upd] <;> rfl) (fun i _ hi => ce_other rfl (sL_row hi))] at hP2 hD2
  exact kk h H2 locs2 ls hl hP2 hD2 hS2
theorem g_zast {k : Nat} {i : Int32} {x : Int32} (hk : kd k = 15) (hN : k < N0) (hx : vp_nar .boolean x = x) (hin : vp_in i (ln k)) (hd : DD I.1 pc .bastore 1 n) (kk : G p l e R s m args below meth c D cy ad A I post n L S (sI st k i.toNatClampNeg x)) : G p l e R s m args below meth c D cy ad A I post pc L (.int x :: .int i :: .ref k :: S) st := by
  obtain ⟨h1, h2⟩ := hd
  subst h2
  intro h H locs ls hl hP hD hS
  refine va_zast h.1 h.2.1 h.2.2.2.2.2.2.2.1 hP hD hS k 3 ((cw_get cy ad st hN).trans (by rw [ce_arr (by omega), pa_i (Or.inr (Or.inr hk))])) (by rw [hk]; rfl) hin h1 (fun H2 locs2 hP2 hD2 hS2 => ?_)
  rw [hx] at hP2 hD2
  rw [cw_set cy ad st (sI st k i.toNatClampNeg x) hN (by rw [ce_arr (by omega), pa_i (Or.inr (Or.inr hk)), sI_upd]) (fun i _ hi => ce_other (sI_row hi) rfl)] at hP2 hD2
  exact kk h H2 locs2 ls hl hP2 hD2 hS2
theorem g_alen {k : Nat} {v : Int32} (hk : 12 ≤ kd k) (hk2 : kd k < 18) (hN : k < N0) (hv : Int32.ofNat (ln k) = v) (hd : DD I.1 pc .arraylength 1 n) (kk : G p l e R s m args below meth c D cy ad A I post n L (.int v :: S) st) : G p l e R s m args below meth c D cy ad A I post pc L (.ref k :: S) st := by
  obtain ⟨h1, h2⟩ := hd
  subst h2
  intro h H locs ls hl hP hD hS
  have hc := (cw_get cy ad st hN).trans (by rw [ce_arr (by omega)])
  have ht : ∃ ty, (tyl cy)[kd k - 12]? = some (cy (kd k), ty) := by
    have h9 : kd k = 12 ∨ kd k = 13 ∨ kd k = 14 ∨ kd k = 15 ∨ kd k = 16 ∨ kd k = 17 := by omega
    rcases h9 with h9 | h9 | h9 | h9 | h9 | h9 <;> rw [h9] <;> exact ⟨_, rfl⟩
  obtain ⟨ty, ht⟩ := ht
  exact va_alen h.1 h.2.1 h.2.2.2.2.2.2.2.1 hP k (kd k - 12) hc ht hv h1 (kk h H locs ls hl hP hD hS)
theorem g_iret {x : Int32} (hr : I.2.2.2 = some .int) (hd : decode I.1 pc = .ok (.ireturn, 1)) (hp : post (some (.int x)) st) : G p l e R s m args below meth c D cy ad A I post pc L [.int x] st :=
  fun h H locs ls hl hP hD hS => W.iret (v := x) h.1 h.2.1 (h.2.2.2.1.trans hr) (fun t ht hW => ⟨⟨some (.int x), st, rfl, hp, by rw [ht]; exact hP, va_K.moved hW.alike h.2.2.2.2.2.2.2.1, hD⟩, hS.F ht⟩) hS.2.2 hd h.2.2.2.2.1
theorem g_zret {x : Int32} {ty : FieldType} (hr : I.2.2.2 = some ty) (hn : narrow ty (.int x) = .int x) (hd : decode I.1 pc = .ok (.ireturn, 1)) (hp : post (some (.int x)) st) : G p l e R s m args below meth c D cy ad A I post pc L [.int x] st :=
  fun h H locs ls hl hP hD hS => W.zret (v := x) h.1 h.2.1 (h.2.2.2.1.trans hr) hn (fun t ht hW => ⟨⟨some (.int x), st, rfl, hp, by rw [ht]; exact hP, va_K.moved hW.alike h.2.2.2.2.2.2.2.1, hD⟩, hS.F ht⟩) hS.2.2 hd h.2.2.2.2.1
theorem g_lret {x : Int64} (hr : I.2.2.2 = some .long) (hd : decode I.1 pc = .ok (.lreturn, 1)) (hp : post (some (.long x)) st) : G p l e R s m args below meth c D cy ad A I post pc L [.long x] st :=
  fun h H locs ls hl hP hD hS => W.lret (v := x) h.1 h.2.1 (h.2.2.2.1.trans hr) (fun t ht hW => ⟨⟨some (.long x), st, rfl, hp, by rw [ht]; exact hP, va_K.moved hW.alike h.2.2.2.2.2.2.2.1, hD⟩, hS.F ht⟩) hS.2.2 hd h.2.2.2.2.1
theorem g_vret (hr : I.2.2.2 = none) (hd : decode I.1 pc = .ok (.return_, 1)) (hp : post none st) : G p l e R s m args below meth c D cy ad A I post pc L [] st :=
  fun h H locs ls hl hP hD hS => W.vret h.1 h.2.1 (h.2.2.2.1.trans hr) (fun t ht hW => ⟨⟨none, st, rfl, hp, by rw [ht]; exact hP, va_K.moved hW.alike h.2.2.2.2.2.2.2.1, hD⟩, hS.F ht⟩) hS.2.2 hd h.2.2.2.2.1
end GR
