/-! My own layer over the kit: one judgement cb_V (the machine at a pc, with named locals, a stack and a world), a row an instruction; contracts cb_C; pure words for the decompiled methods. Written by wip/gen/mklayer.py. -/
abbrev cb_S : Type := Nat → Nat → Int32
def cb_up (σ : cb_S) (j k : Nat) (v : Int32) : cb_S := fun i => if i = j then upd (σ j) k v else σ i
def cb_let {α β : Type} (x : α) (f : α → β) : β := f x
theorem cb_let_o {α β : Type} {x : α} {f : α → β} {r : β} (h : cb_let x f = r) : ∃ y, x = y ∧ f y = r := ⟨x, rfl, h⟩
def cb_bo {α β : Type} (x : Option α) (f : α → Option β) : Option β := match x with
  | none => none
  | some a => f a
theorem cb_bo_o {α β : Type} {x : Option α} {f : α → Option β} {r : β} (h : cb_bo x f = some r) : ∃ a, x = some a ∧ f a = some r := by
  cases x with
  | none => cases h
  | some a => exact ⟨a, rfl, h⟩
def cb_b2 {α γ β : Type} (x : Option (α × γ)) (f : α → γ → Option β) : Option β := match x with
  | none => none
  | some a => f a.1 a.2
theorem cb_b2_o {α γ β : Type} {x : Option (α × γ)} {f : α → γ → Option β} {r : β} (h : cb_b2 x f = some r) : ∃ a c, x = some (a, c) ∧ f a c = some r := by
  cases x with
  | none => cases h
  | some a => exact ⟨a.1, a.2, rfl, h⟩
def cb_gd {β : Type} (c : Prop) [Decidable c] (x : Option β) : Option β := if c then x else none
theorem cb_gd_o {β : Type} {c : Prop} [Decidable c] {x : Option β} {r : β} (h : cb_gd c x = some r) : c ∧ x = some r := by
  unfold cb_gd at h
  by_cases hc : c
  · rw [if_pos hc] at h; exact ⟨hc, h⟩
  · rw [if_neg hc] at h; cases h
theorem cb_it {α : Type} {c : Prop} [Decidable c] {a b r : α} (h : c) (e : (if c then a else b) = r) : a = r := by rw [if_pos h] at e; exact e
theorem cb_if {α : Type} {c : Prop} [Decidable c] {a b r : α} (h : ¬ c) (e : (if c then a else b) = r) : b = r := by rw [if_neg h] at e; exact e
theorem cb_cut {B : Prop} (A : Prop) (h : A → B) (a : A) : B := h a
def cb_01 (x : Int32) : Prop := x = 0 ∨ x = 1
theorem cb_01_0 : cb_01 0 := Or.inl rfl
theorem cb_01_1 : cb_01 1 := Or.inr rfl
theorem cb_01_i {c : Prop} [Decidable c] {x y : Int32} (h : cb_01 x) (k : cb_01 y) : cb_01 (if c then x else y) := by
  by_cases hc : c
  · rw [if_pos hc]; exact h
  · rw [if_neg hc]; exact k
theorem cb_01_n {x : Int32} (h : cb_01 x) : narrow .boolean (.int x) = .int x := by
  rcases h with rfl | rfl <;> decide +kernel
theorem cb_01_f {x : Int32} (h : cb_01 x) : fits .boolean (.int x) = true := by
  rcases h with rfl | rfl <;> decide +kernel
theorem cb_01_v {x : Int32} (h : cb_01 x) : vp_nar .boolean x = x := by
  rcases h with rfl | rfl <;> decide +kernel
/-- the machine's fixed things: p l e R s m args below meth c, D, what may be written, cells and slots so far, the end -/
abbrev cb_X : Type := Program × Launch × Env × Room × State × MethodId × Array Value × List Frame × Method × Code × va_G × (Nat → Prop) × Nat × Nat × (State → Prop)
def cb_V (X : cb_X) (w : va_W) (pc : Nat) (lv : List (Nat × Value)) (st : List Value) : Prop := match X with
  | (p, l, e, R, s, m, args, below, meth, c, D, A, k, n, Q) => ∀ (H : Heap) (locs : List Loc) (ls : Array Slot), va_P D vwCl w H → va_D A w → va_S A s.heap H locs → lv_has ls c.maxLocals lv → W p l e R s m args below meth c H locs k n Q (F0 m pc ls st)
/-- words of a system: of the tables, of nest mates, of its arrays -/
abbrev cb_E : Type := List Cond × List Cond × List (ClassId × FieldType)
/-- words that keep: of the tables; of nest mates -/
def cb_good (E : cb_E) : Prop := (∀ w ∈ E.1, ((w.onTables && w.keeps) = true ∨ ∃ ty, w = .arrayClass ty)) ∧ ∀ x ∈ E.2.1, x.onTables = true ∧ ∀ s U : State, s.WarmedH U.vm → va_Nw x s → va_Nw x U
/-- what stands all along -/
def cb_ok (X : cb_X) (cc : ByteArray) (own : String) (E : cb_E) (fr lo nL : Nat) : Prop := match X with
  | (p, _, _, R, s, m, args, _, _, c, D, _, k, n, _) => p.tables.exec = Jvm.exec ∧ c.code = cc ∧ c.maxLocals = nL ∧ s.vm.findClass own = some m.cls ∧ (∀ w ∈ E.1, w.before args s = true) ∧ (∀ w ∈ E.2.1, va_Nw w s) ∧ va_K D vwCl E.2.2 s ∧ fr ≤ R.frames ∧ lo ≤ R.locals ∧ k ≤ R.cells ∧ n ≤ R.slots ∧ cb_good E
section CBR
variable {X : cb_X} {w : va_W} {pc : Nat} {lv : List (Nat × Value)} {st : List Value} {cc : ByteArray} {own : String} {E : cb_E} {fr lo nL : Nat}
theorem cb_lv (is : List Nat) {lv' : List (Nat × Value)} (hs : lv_pick lv is = lv') (kk : cb_V X w pc lv' st) : cb_V X w pc lv st := by
  obtain ⟨p, l, e, R, s, m, args, below, meth, c, D, A, kX, nX, Q⟩ := X
  exact fun H locs ls hP hD hS hl => kk H locs ls hP hD hS (lv_sub hl is hs)
theorem cb_top {x y : Int32} (he : x = y) (kk : cb_V X w pc lv (.int y :: st)) : cb_V X w pc lv (.int x :: st) := by
  subst he; exact kk
theorem cb_tt {c : Prop} [Decidable c] {x y : Int32} (h : c) (kk : cb_V X w pc lv (.int (if c then x else y) :: st)) : cb_V X w pc lv (.int x :: st) := by
  rw [if_pos h] at kk; exact kk
theorem cb_tf {c : Prop} [Decidable c] {x y : Int32} (h : ¬ c) (kk : cb_V X w pc lv (.int (if c then x else y) :: st)) : cb_V X w pc lv (.int y :: st) := by
  rw [if_neg h] at kk; exact kk
/-- the new list of locals -/
abbrev cb_set (i : Nat) (v : Value) (lv : List (Nat × Value)) : List (Nat × Value) := (i, v) :: lv.filter (fun q => !(q.1 == i) && !(q.1 + 1 == i && q.2.category == 2))
theorem cb_iconst {n : Int} {v : Int32} (nx : Nat) (h : cb_ok X cc own E fr lo nL) (hd : decode cc pc = .ok (.iconst n, 1)) (hn : pc + 1 = nx) (hv : Int32.ofInt n = v) (kk : cb_V X w nx lv (.int v :: st)) : cb_V X w pc lv (st) := by
  subst hn
  obtain ⟨p, l, e, R, s, m, args, below, meth, c, D, A, kX, nX, Q⟩ := X
  exact fun H locs ls hP hD hS hl => lv_iconst h.1 h.2.1 hd hv (kk H locs ls hP hD hS hl)
theorem cb_bipush {n : Int} {v : Int32} (nx : Nat) (h : cb_ok X cc own E fr lo nL) (hd : decode cc pc = .ok (.bipush n, 2)) (hn : pc + 2 = nx) (hv : (Int8.ofInt n).toInt32 = v) (kk : cb_V X w nx lv (.int v :: st)) : cb_V X w pc lv (st) := by
  subst hn
  obtain ⟨p, l, e, R, s, m, args, below, meth, c, D, A, kX, nX, Q⟩ := X
  exact fun H locs ls hP hD hS hl => lv_bipush h.1 h.2.1 hd hv (kk H locs ls hP hD hS hl)
theorem cb_sipush {n : Int} {v : Int32} (nx : Nat) (h : cb_ok X cc own E fr lo nL) (hd : decode cc pc = .ok (.sipush n, 3)) (hn : pc + 3 = nx) (hv : (Int16.ofInt n).toInt32 = v) (kk : cb_V X w nx lv (.int v :: st)) : cb_V X w pc lv (st) := by
  subst hn
  obtain ⟨p, l, e, R, s, m, args, below, meth, c, D, A, kX, nX, Q⟩ := X
  exact fun H locs ls hP hD hS hl => lv_sipush h.1 h.2.1 hd hv (kk H locs ls hP hD hS hl)
theorem cb_null (nx : Nat) (h : cb_ok X cc own E fr lo nL) (hd : decode cc pc = .ok (.aconst_null, 1)) (hn : pc + 1 = nx) (kk : cb_V X w nx lv (.null :: st)) : cb_V X w pc lv (st) := by
  subst hn
  obtain ⟨p, l, e, R, s, m, args, below, meth, c, D, A, kX, nX, Q⟩ := X
  exact fun H locs ls hP hD hS hl => lv_null h.1 h.2.1 hd (kk H locs ls hP hD hS hl)
theorem cb_ldc {index : Nat} {v : Int32} (nx : Nat) (h : cb_ok X cc own E fr lo nL) (hd : decode cc pc = .ok (.ldc index, 2)) (hn : pc + 2 = nx) (hc : Cond.constant own index v ∈ E.1) (kk : cb_V X w nx lv (.int v :: st)) : cb_V X w pc lv (st) := by
  subst hn
  obtain ⟨p, l, e, R, s, m, args, below, meth, c, D, A, kX, nX, Q⟩ := X
  exact fun H locs ls hP hD hS hl => lv_ldc h.1 h.2.1 h.2.2.2.1 (h.2.2.2.2.1 _ hc) hd (kk H locs ls hP hD hS hl)
theorem cb_ldcw {index : Nat} {v : Int32} (nx : Nat) (h : cb_ok X cc own E fr lo nL) (hd : decode cc pc = .ok (.ldc_w index, 3)) (hn : pc + 3 = nx) (hc : Cond.constant own index v ∈ E.1) (kk : cb_V X w nx lv (.int v :: st)) : cb_V X w pc lv (st) := by
  subst hn
  obtain ⟨p, l, e, R, s, m, args, below, meth, c, D, A, kX, nX, Q⟩ := X
  exact fun H locs ls hP hD hS hl => lv_ldcw h.1 h.2.1 h.2.2.2.1 (h.2.2.2.2.1 _ hc) hd (kk H locs ls hP hD hS hl)
theorem cb_iload_n {i : Nat} {k : Fin 4} {x : Int32} (nx : Nat) (j : Nat) (h : cb_ok X cc own E fr lo nL) (hd : decode cc pc = .ok (.iload_n k, 1)) (hn : pc + 1 = nx) (hi : (k : Nat) = i) (hj : lv[j]? = some (i, .int x)) (kk : cb_V X w nx lv (.int x :: st)) : cb_V X w pc lv (st) := by
  subst hn
  obtain ⟨p, l, e, R, s, m, args, below, meth, c, D, A, kX, nX, Q⟩ := X
  exact fun H locs ls hP hD hS hl => lv_iload_n h.1 h.2.1 hd hi (lv_at hl j hj) (kk H locs ls hP hD hS hl)
theorem cb_iload {i : Nat} {x : Int32} (nx : Nat) (j : Nat) (h : cb_ok X cc own E fr lo nL) (hd : decode cc pc = .ok (.iload i, 2)) (hn : pc + 2 = nx) (hj : lv[j]? = some (i, .int x)) (kk : cb_V X w nx lv (.int x :: st)) : cb_V X w pc lv (st) := by
  subst hn
  obtain ⟨p, l, e, R, s, m, args, below, meth, c, D, A, kX, nX, Q⟩ := X
  exact fun H locs ls hP hD hS hl => lv_iload h.1 h.2.1 hd (lv_at hl j hj) (kk H locs ls hP hD hS hl)
theorem cb_aload_n {i : Nat} {k : Fin 4} {x : Nat} (nx : Nat) (j : Nat) (h : cb_ok X cc own E fr lo nL) (hd : decode cc pc = .ok (.aload_n k, 1)) (hn : pc + 1 = nx) (hi : (k : Nat) = i) (hj : lv[j]? = some (i, .ref x)) (kk : cb_V X w nx lv (.ref x :: st)) : cb_V X w pc lv (st) := by
  subst hn
  obtain ⟨p, l, e, R, s, m, args, below, meth, c, D, A, kX, nX, Q⟩ := X
  exact fun H locs ls hP hD hS hl => lv_aload_n h.1 h.2.1 hd hi (lv_at hl j hj) (kk H locs ls hP hD hS hl)
theorem cb_aloadN_n {i : Nat} {k : Fin 4} (nx : Nat) (j : Nat) (h : cb_ok X cc own E fr lo nL) (hd : decode cc pc = .ok (.aload_n k, 1)) (hn : pc + 1 = nx) (hi : (k : Nat) = i) (hj : lv[j]? = some (i, .null)) (kk : cb_V X w nx lv (.null :: st)) : cb_V X w pc lv (st) := by
  subst hn
  obtain ⟨p, l, e, R, s, m, args, below, meth, c, D, A, kX, nX, Q⟩ := X
  exact fun H locs ls hP hD hS hl => lv_aload_nN h.1 h.2.1 hd hi (lv_at hl j hj) (kk H locs ls hP hD hS hl)
theorem cb_aload {i : Nat} {x : Nat} (nx : Nat) (j : Nat) (h : cb_ok X cc own E fr lo nL) (hd : decode cc pc = .ok (.aload i, 2)) (hn : pc + 2 = nx) (hj : lv[j]? = some (i, .ref x)) (kk : cb_V X w nx lv (.ref x :: st)) : cb_V X w pc lv (st) := by
  subst hn
  obtain ⟨p, l, e, R, s, m, args, below, meth, c, D, A, kX, nX, Q⟩ := X
  exact fun H locs ls hP hD hS hl => lv_aload h.1 h.2.1 hd (lv_at hl j hj) (kk H locs ls hP hD hS hl)
theorem cb_istore_n {i : Nat} {k : Fin 4} {x y : Int32} {lv' : List (Nat × Value)} (nx : Nat) (h : cb_ok X cc own E fr lo nL) (hd : decode cc pc = .ok (.istore_n k, 1)) (hn : pc + 1 = nx) (hi : (k : Nat) = i) (he : x = y) (hL : i < nL) (hl : cb_set i (.int y) lv = lv') (kk : cb_V X w nx lv' st) : cb_V X w pc lv (.int x :: st) := by
  subst hn; subst he
  obtain ⟨p, l, e, R, s, m, args, below, meth, c, D, A, kX, nX, Q⟩ := X
  have hL : i < c.maxLocals := by rw [h.2.2.1]; exact hL
  exact fun H locs ls hP hD hS hl0 => lv_istore_n h.1 h.2.1 hd hi hl0 hL hl (fun ls' h' => kk H locs ls' hP hD hS h')
theorem cb_istore {i : Nat} {x y : Int32} {lv' : List (Nat × Value)} (nx : Nat) (h : cb_ok X cc own E fr lo nL) (hd : decode cc pc = .ok (.istore i, 2)) (hn : pc + 2 = nx) (he : x = y) (hL : i < nL) (hl : cb_set i (.int y) lv = lv') (kk : cb_V X w nx lv' st) : cb_V X w pc lv (.int x :: st) := by
  subst hn; subst he
  obtain ⟨p, l, e, R, s, m, args, below, meth, c, D, A, kX, nX, Q⟩ := X
  have hL : i < c.maxLocals := by rw [h.2.2.1]; exact hL
  exact fun H locs ls hP hD hS hl0 => lv_istore h.1 h.2.1 hd hl0 hL hl (fun ls' h' => kk H locs ls' hP hD hS h')
theorem cb_astore_n {i : Nat} {k : Fin 4} {x : Nat} {lv' : List (Nat × Value)} (nx : Nat) (h : cb_ok X cc own E fr lo nL) (hd : decode cc pc = .ok (.astore_n k, 1)) (hn : pc + 1 = nx) (hi : (k : Nat) = i) (hL : i < nL) (hl : cb_set i (.ref x) lv = lv') (kk : cb_V X w nx lv' st) : cb_V X w pc lv (.ref x :: st) := by
  subst hn
  obtain ⟨p, l, e, R, s, m, args, below, meth, c, D, A, kX, nX, Q⟩ := X
  have hL : i < c.maxLocals := by rw [h.2.2.1]; exact hL
  exact fun H locs ls hP hD hS hl0 => lv_astore_n h.1 h.2.1 hd hi hl0 hL hl (fun ls' h' => kk H locs ls' hP hD hS h')
theorem cb_astoreN_n {i : Nat} {k : Fin 4} {lv' : List (Nat × Value)} (nx : Nat) (h : cb_ok X cc own E fr lo nL) (hd : decode cc pc = .ok (.astore_n k, 1)) (hn : pc + 1 = nx) (hi : (k : Nat) = i) (hL : i < nL) (hl : cb_set i (.null) lv = lv') (kk : cb_V X w nx lv' st) : cb_V X w pc lv (.null :: st) := by
  subst hn
  obtain ⟨p, l, e, R, s, m, args, below, meth, c, D, A, kX, nX, Q⟩ := X
  have hL : i < c.maxLocals := by rw [h.2.2.1]; exact hL
  exact fun H locs ls hP hD hS hl0 => lv_astore_nN h.1 h.2.1 hd hi hl0 hL hl (fun ls' h' => kk H locs ls' hP hD hS h')
theorem cb_iinc {i : Nat} {n : Int} {x v : Int32} (j : Nat) {lv' : List (Nat × Value)} (nx : Nat) (h : cb_ok X cc own E fr lo nL) (hd : decode cc pc = .ok (.iinc i n, 3)) (hn : pc + 3 = nx) (hj : lv[j]? = some (i, .int x)) (hv : x + Int32.ofInt n = v) (hL : i < nL) (hl : cb_set i (.int v) lv = lv') (kk : cb_V X w nx lv' st) : cb_V X w pc lv (st) := by
  subst hn
  obtain ⟨p, l, e, R, s, m, args, below, meth, c, D, A, kX, nX, Q⟩ := X
  have hL : i < c.maxLocals := by rw [h.2.2.1]; exact hL
  exact fun H locs ls hP hD hS hl0 => lv_iinc h.1 h.2.1 hd hl0 hj hv hL hl (fun ls' h' => kk H locs ls' hP hD hS h')
theorem cb_iadd {x y : Int32} (nx : Nat) (h : cb_ok X cc own E fr lo nL) (hd : decode cc pc = .ok (.iadd, 1)) (hn : pc + 1 = nx) (kk : cb_V X w nx lv (.int (x + y) :: st)) : cb_V X w pc lv (.int y :: .int x :: st) := by
  subst hn
  obtain ⟨p, l, e, R, s, m, args, below, meth, c, D, A, kX, nX, Q⟩ := X
  exact fun H locs ls hP hD hS hl => lv_iadd h.1 h.2.1 hd (kk H locs ls hP hD hS hl)
theorem cb_isub {x y : Int32} (nx : Nat) (h : cb_ok X cc own E fr lo nL) (hd : decode cc pc = .ok (.isub, 1)) (hn : pc + 1 = nx) (kk : cb_V X w nx lv (.int (x - y) :: st)) : cb_V X w pc lv (.int y :: .int x :: st) := by
  subst hn
  obtain ⟨p, l, e, R, s, m, args, below, meth, c, D, A, kX, nX, Q⟩ := X
  exact fun H locs ls hP hD hS hl => lv_isub h.1 h.2.1 hd (kk H locs ls hP hD hS hl)
theorem cb_imul {x y : Int32} (nx : Nat) (h : cb_ok X cc own E fr lo nL) (hd : decode cc pc = .ok (.imul, 1)) (hn : pc + 1 = nx) (kk : cb_V X w nx lv (.int (x * y) :: st)) : cb_V X w pc lv (.int y :: .int x :: st) := by
  subst hn
  obtain ⟨p, l, e, R, s, m, args, below, meth, c, D, A, kX, nX, Q⟩ := X
  exact fun H locs ls hP hD hS hl => lv_imul h.1 h.2.1 hd (kk H locs ls hP hD hS hl)
theorem cb_iand {x y : Int32} (nx : Nat) (h : cb_ok X cc own E fr lo nL) (hd : decode cc pc = .ok (.iand, 1)) (hn : pc + 1 = nx) (kk : cb_V X w nx lv (.int (x &&& y) :: st)) : cb_V X w pc lv (.int y :: .int x :: st) := by
  subst hn
  obtain ⟨p, l, e, R, s, m, args, below, meth, c, D, A, kX, nX, Q⟩ := X
  exact fun H locs ls hP hD hS hl => lv_iand h.1 h.2.1 hd (kk H locs ls hP hD hS hl)
theorem cb_ior {x y : Int32} (nx : Nat) (h : cb_ok X cc own E fr lo nL) (hd : decode cc pc = .ok (.ior, 1)) (hn : pc + 1 = nx) (kk : cb_V X w nx lv (.int (x ||| y) :: st)) : cb_V X w pc lv (.int y :: .int x :: st) := by
  subst hn
  obtain ⟨p, l, e, R, s, m, args, below, meth, c, D, A, kX, nX, Q⟩ := X
  exact fun H locs ls hP hD hS hl => lv_ior h.1 h.2.1 hd (kk H locs ls hP hD hS hl)
theorem cb_ixor {x y : Int32} (nx : Nat) (h : cb_ok X cc own E fr lo nL) (hd : decode cc pc = .ok (.ixor, 1)) (hn : pc + 1 = nx) (kk : cb_V X w nx lv (.int (x ^^^ y) :: st)) : cb_V X w pc lv (.int y :: .int x :: st) := by
  subst hn
  obtain ⟨p, l, e, R, s, m, args, below, meth, c, D, A, kX, nX, Q⟩ := X
  exact fun H locs ls hP hD hS hl => lv_ixor h.1 h.2.1 hd (kk H locs ls hP hD hS hl)
theorem cb_ishl {x y : Int32} (nx : Nat) (h : cb_ok X cc own E fr lo nL) (hd : decode cc pc = .ok (.ishl, 1)) (hn : pc + 1 = nx) (kk : cb_V X w nx lv (.int (x <<< (y &&& 31)) :: st)) : cb_V X w pc lv (.int y :: .int x :: st) := by
  subst hn
  obtain ⟨p, l, e, R, s, m, args, below, meth, c, D, A, kX, nX, Q⟩ := X
  exact fun H locs ls hP hD hS hl => lv_ishl h.1 h.2.1 hd (kk H locs ls hP hD hS hl)
theorem cb_ishr {x y : Int32} (nx : Nat) (h : cb_ok X cc own E fr lo nL) (hd : decode cc pc = .ok (.ishr, 1)) (hn : pc + 1 = nx) (kk : cb_V X w nx lv (.int (x >>> (y &&& 31)) :: st)) : cb_V X w pc lv (.int y :: .int x :: st) := by
  subst hn
  obtain ⟨p, l, e, R, s, m, args, below, meth, c, D, A, kX, nX, Q⟩ := X
  exact fun H locs ls hP hD hS hl => lv_ishr h.1 h.2.1 hd (kk H locs ls hP hD hS hl)
theorem cb_idiv {x y : Int32} (nx : Nat) (h : cb_ok X cc own E fr lo nL) (hd : decode cc pc = .ok (.idiv, 1)) (hn : pc + 1 = nx) (hy : ¬ y = 0) (kk : cb_V X w nx lv (.int (x / y) :: st)) : cb_V X w pc lv (.int y :: .int x :: st) := by
  subst hn
  obtain ⟨p, l, e, R, s, m, args, below, meth, c, D, A, kX, nX, Q⟩ := X
  exact fun H locs ls hP hD hS hl => lv_idiv h.1 h.2.1 hd hy (kk H locs ls hP hD hS hl)
theorem cb_irem {x y : Int32} (nx : Nat) (h : cb_ok X cc own E fr lo nL) (hd : decode cc pc = .ok (.irem, 1)) (hn : pc + 1 = nx) (hy : ¬ y = 0) (kk : cb_V X w nx lv (.int (x - x / y * y) :: st)) : cb_V X w pc lv (.int y :: .int x :: st) := by
  subst hn
  obtain ⟨p, l, e, R, s, m, args, below, meth, c, D, A, kX, nX, Q⟩ := X
  exact fun H locs ls hP hD hS hl => lv_irem h.1 h.2.1 hd hy (kk H locs ls hP hD hS hl)
theorem cb_iushr {x y : Int32} (nx : Nat) (h : cb_ok X cc own E fr lo nL) (hd : decode cc pc = .ok (.iushr, 1)) (hn : pc + 1 = nx) (kk : cb_V X w nx lv (.int ((x.toUInt32 >>> (y.toUInt32 &&& Int32.toUInt32 31)).toInt32) :: st)) : cb_V X w pc lv (.int y :: .int x :: st) := by
  subst hn
  obtain ⟨p, l, e, R, s, m, args, below, meth, c, D, A, kX, nX, Q⟩ := X
  exact fun H locs ls hP hD hS hl => lv_iushr h.1 h.2.1 hd rfl (kk H locs ls hP hD hS hl)
theorem cb_i2b {x : Int32} (nx : Nat) (h : cb_ok X cc own E fr lo nL) (hd : decode cc pc = .ok (.i2b, 1)) (hn : pc + 1 = nx) (kk : cb_V X w nx lv (.int (x.toInt8.toInt32) :: st)) : cb_V X w pc lv (.int x :: st) := by
  subst hn
  obtain ⟨p, l, e, R, s, m, args, below, meth, c, D, A, kX, nX, Q⟩ := X
  exact fun H locs ls hP hD hS hl => lv_i2b h.1 h.2.1 hd rfl (kk H locs ls hP hD hS hl)
theorem cb_dup {v : Value} (nx : Nat) (h : cb_ok X cc own E fr lo nL) (hd : decode cc pc = .ok (.dup, 1)) (hn : pc + 1 = nx) (hv : v.category = 1) (kk : cb_V X w nx lv (v :: v :: st)) : cb_V X w pc lv (v :: st) := by
  subst hn
  obtain ⟨p, l, e, R, s, m, args, below, meth, c, D, A, kX, nX, Q⟩ := X
  exact fun H locs ls hP hD hS hl => lv_dup h.1 h.2.1 hd hv (kk H locs ls hP hD hS hl)
theorem cb_pop {v : Value} (nx : Nat) (h : cb_ok X cc own E fr lo nL) (hd : decode cc pc = .ok (.pop, 1)) (hn : pc + 1 = nx) (hv : v.category = 1) (kk : cb_V X w nx lv (st)) : cb_V X w pc lv (v :: st) := by
  subst hn
  obtain ⟨p, l, e, R, s, m, args, below, meth, c, D, A, kX, nX, Q⟩ := X
  exact fun H locs ls hP hD hS hl => lv_pop h.1 h.2.1 hd hv (kk H locs ls hP hD hS hl)
theorem cb_dup2 {v u : Value} (nx : Nat) (h : cb_ok X cc own E fr lo nL) (hd : decode cc pc = .ok (.dup2, 1)) (hn : pc + 1 = nx) (hv : v.category = 1) (hu : u.category = 1) (kk : cb_V X w nx lv (v :: u :: v :: u :: st)) : cb_V X w pc lv (v :: u :: st) := by
  subst hn
  obtain ⟨p, l, e, R, s, m, args, below, meth, c, D, A, kX, nX, Q⟩ := X
  exact fun H locs ls hP hD hS hl => lv_dup2_11 h.1 h.2.1 hd hv hu (kk H locs ls hP hD hS hl)
theorem cb_dup_x1 {v u : Value} (nx : Nat) (h : cb_ok X cc own E fr lo nL) (hd : decode cc pc = .ok (.dup_x1, 1)) (hn : pc + 1 = nx) (hv : v.category = 1) (hu : u.category = 1) (kk : cb_V X w nx lv (v :: u :: v :: st)) : cb_V X w pc lv (v :: u :: st) := by
  subst hn
  obtain ⟨p, l, e, R, s, m, args, below, meth, c, D, A, kX, nX, Q⟩ := X
  exact fun H locs ls hP hD hS hl => lv_dup_x1 h.1 h.2.1 hd hv hu (kk H locs ls hP hD hS hl)
theorem cb_goto {off : Int} (tg : Nat) (h : cb_ok X cc own E fr lo nL) (hd : decode cc pc = .ok (.goto off, 3)) (ht : (pc : Int) + off = (tg : Int)) (kk : cb_V X w tg lv st) : cb_V X w pc lv st := by
  obtain ⟨p, l, e, R, s, m, args, below, meth, c, D, A, kX, nX, Q⟩ := X
  exact fun H locs ls hP hD hS hl => lv_goto h.1 h.2.1 hd ht (kk H locs ls hP hD hS hl)
theorem cb_if_eq {x : Int32} {off : Int} (tg nx : Nat) (h : cb_ok X cc own E fr lo nL) (hd : decode cc pc = .ok (.ifCond .eq off, 3)) (ht : (pc : Int) + off = (tg : Int)) (hn : pc + 3 = nx) (kt : x = 0 → cb_V X w tg lv st) (kf : ¬ x = 0 → cb_V X w nx lv st) : cb_V X w pc lv (.int x :: st) := by
  subst hn
  obtain ⟨p, l, e, R, s, m, args, below, meth, c, D, A, kX, nX, Q⟩ := X
  exact fun H locs ls hP hD hS hl => lv_if_eq h.1 h.2.1 hd ht (fun q => kt q H locs ls hP hD hS hl) (fun q => kf q H locs ls hP hD hS hl)
theorem cb_if_lt {x : Int32} {off : Int} (tg nx : Nat) (h : cb_ok X cc own E fr lo nL) (hd : decode cc pc = .ok (.ifCond .lt off, 3)) (ht : (pc : Int) + off = (tg : Int)) (hn : pc + 3 = nx) (kt : x < 0 → cb_V X w tg lv st) (kf : ¬ x < 0 → cb_V X w nx lv st) : cb_V X w pc lv (.int x :: st) := by
  subst hn
  obtain ⟨p, l, e, R, s, m, args, below, meth, c, D, A, kX, nX, Q⟩ := X
  exact fun H locs ls hP hD hS hl => lv_if_lt h.1 h.2.1 hd ht (fun q => kt q H locs ls hP hD hS hl) (fun q => kf q H locs ls hP hD hS hl)
theorem cb_if_ge {x : Int32} {off : Int} (tg nx : Nat) (h : cb_ok X cc own E fr lo nL) (hd : decode cc pc = .ok (.ifCond .ge off, 3)) (ht : (pc : Int) + off = (tg : Int)) (hn : pc + 3 = nx) (kt : 0 ≤ x → cb_V X w tg lv st) (kf : ¬ 0 ≤ x → cb_V X w nx lv st) : cb_V X w pc lv (.int x :: st) := by
  subst hn
  obtain ⟨p, l, e, R, s, m, args, below, meth, c, D, A, kX, nX, Q⟩ := X
  exact fun H locs ls hP hD hS hl => lv_if_ge h.1 h.2.1 hd ht (fun q => kt q H locs ls hP hD hS hl) (fun q => kf q H locs ls hP hD hS hl)
theorem cb_if_gt {x : Int32} {off : Int} (tg nx : Nat) (h : cb_ok X cc own E fr lo nL) (hd : decode cc pc = .ok (.ifCond .gt off, 3)) (ht : (pc : Int) + off = (tg : Int)) (hn : pc + 3 = nx) (kt : 0 < x → cb_V X w tg lv st) (kf : ¬ 0 < x → cb_V X w nx lv st) : cb_V X w pc lv (.int x :: st) := by
  subst hn
  obtain ⟨p, l, e, R, s, m, args, below, meth, c, D, A, kX, nX, Q⟩ := X
  exact fun H locs ls hP hD hS hl => lv_if_gt h.1 h.2.1 hd ht (fun q => kt q H locs ls hP hD hS hl) (fun q => kf q H locs ls hP hD hS hl)
theorem cb_if_le {x : Int32} {off : Int} (tg nx : Nat) (h : cb_ok X cc own E fr lo nL) (hd : decode cc pc = .ok (.ifCond .le off, 3)) (ht : (pc : Int) + off = (tg : Int)) (hn : pc + 3 = nx) (kt : x ≤ 0 → cb_V X w tg lv st) (kf : ¬ x ≤ 0 → cb_V X w nx lv st) : cb_V X w pc lv (.int x :: st) := by
  subst hn
  obtain ⟨p, l, e, R, s, m, args, below, meth, c, D, A, kX, nX, Q⟩ := X
  exact fun H locs ls hP hD hS hl => lv_if_le h.1 h.2.1 hd ht (fun q => kt q H locs ls hP hD hS hl) (fun q => kf q H locs ls hP hD hS hl)
theorem cb_if_ne {x : Int32} {off : Int} (tg nx : Nat) (h : cb_ok X cc own E fr lo nL) (hd : decode cc pc = .ok (.ifCond .ne off, 3)) (ht : (pc : Int) + off = (tg : Int)) (hn : pc + 3 = nx) (kt : ¬ x = 0 → cb_V X w tg lv st) (kf : x = 0 → cb_V X w nx lv st) : cb_V X w pc lv (.int x :: st) := by
  subst hn
  obtain ⟨p, l, e, R, s, m, args, below, meth, c, D, A, kX, nX, Q⟩ := X
  exact fun H locs ls hP hD hS hl => lv_if_ne h.1 h.2.1 hd ht (fun q => kt q H locs ls hP hD hS hl) (fun q => kf q H locs ls hP hD hS hl)
theorem cb_icmp_eq {x y : Int32} {off : Int} (tg nx : Nat) (h : cb_ok X cc own E fr lo nL) (hd : decode cc pc = .ok (.if_icmp .eq off, 3)) (ht : (pc : Int) + off = (tg : Int)) (hn : pc + 3 = nx) (kt : x = y → cb_V X w tg lv st) (kf : ¬ x = y → cb_V X w nx lv st) : cb_V X w pc lv (.int y :: .int x :: st) := by
  subst hn
  obtain ⟨p, l, e, R, s, m, args, below, meth, c, D, A, kX, nX, Q⟩ := X
  exact fun H locs ls hP hD hS hl => lv_icmp_eq h.1 h.2.1 hd ht (fun q => kt q H locs ls hP hD hS hl) (fun q => kf q H locs ls hP hD hS hl)
theorem cb_icmp_lt {x y : Int32} {off : Int} (tg nx : Nat) (h : cb_ok X cc own E fr lo nL) (hd : decode cc pc = .ok (.if_icmp .lt off, 3)) (ht : (pc : Int) + off = (tg : Int)) (hn : pc + 3 = nx) (kt : x < y → cb_V X w tg lv st) (kf : ¬ x < y → cb_V X w nx lv st) : cb_V X w pc lv (.int y :: .int x :: st) := by
  subst hn
  obtain ⟨p, l, e, R, s, m, args, below, meth, c, D, A, kX, nX, Q⟩ := X
  exact fun H locs ls hP hD hS hl => lv_icmp_lt h.1 h.2.1 hd ht (fun q => kt q H locs ls hP hD hS hl) (fun q => kf q H locs ls hP hD hS hl)
theorem cb_icmp_ge {x y : Int32} {off : Int} (tg nx : Nat) (h : cb_ok X cc own E fr lo nL) (hd : decode cc pc = .ok (.if_icmp .ge off, 3)) (ht : (pc : Int) + off = (tg : Int)) (hn : pc + 3 = nx) (kt : y ≤ x → cb_V X w tg lv st) (kf : ¬ y ≤ x → cb_V X w nx lv st) : cb_V X w pc lv (.int y :: .int x :: st) := by
  subst hn
  obtain ⟨p, l, e, R, s, m, args, below, meth, c, D, A, kX, nX, Q⟩ := X
  exact fun H locs ls hP hD hS hl => lv_icmp_ge h.1 h.2.1 hd ht (fun q => kt q H locs ls hP hD hS hl) (fun q => kf q H locs ls hP hD hS hl)
theorem cb_icmp_gt {x y : Int32} {off : Int} (tg nx : Nat) (h : cb_ok X cc own E fr lo nL) (hd : decode cc pc = .ok (.if_icmp .gt off, 3)) (ht : (pc : Int) + off = (tg : Int)) (hn : pc + 3 = nx) (kt : y < x → cb_V X w tg lv st) (kf : ¬ y < x → cb_V X w nx lv st) : cb_V X w pc lv (.int y :: .int x :: st) := by
  subst hn
  obtain ⟨p, l, e, R, s, m, args, below, meth, c, D, A, kX, nX, Q⟩ := X
  exact fun H locs ls hP hD hS hl => lv_icmp_gt h.1 h.2.1 hd ht (fun q => kt q H locs ls hP hD hS hl) (fun q => kf q H locs ls hP hD hS hl)
theorem cb_icmp_le {x y : Int32} {off : Int} (tg nx : Nat) (h : cb_ok X cc own E fr lo nL) (hd : decode cc pc = .ok (.if_icmp .le off, 3)) (ht : (pc : Int) + off = (tg : Int)) (hn : pc + 3 = nx) (kt : x ≤ y → cb_V X w tg lv st) (kf : ¬ x ≤ y → cb_V X w nx lv st) : cb_V X w pc lv (.int y :: .int x :: st) := by
  subst hn
  obtain ⟨p, l, e, R, s, m, args, below, meth, c, D, A, kX, nX, Q⟩ := X
  exact fun H locs ls hP hD hS hl => lv_icmp_le h.1 h.2.1 hd ht (fun q => kt q H locs ls hP hD hS hl) (fun q => kf q H locs ls hP hD hS hl)
theorem cb_icmp_ne {x y : Int32} {off : Int} (tg nx : Nat) (h : cb_ok X cc own E fr lo nL) (hd : decode cc pc = .ok (.if_icmp .ne off, 3)) (ht : (pc : Int) + off = (tg : Int)) (hn : pc + 3 = nx) (kt : ¬ x = y → cb_V X w tg lv st) (kf : x = y → cb_V X w nx lv st) : cb_V X w pc lv (.int y :: .int x :: st) := by
  subst hn
  obtain ⟨p, l, e, R, s, m, args, below, meth, c, D, A, kX, nX, Q⟩ := X
  exact fun H locs ls hP hD hS hl => lv_icmp_ne h.1 h.2.1 hd ht (fun q => kt q H locs ls hP hD hS hl) (fun q => kf q H locs ls hP hD hS hl)
theorem cb_ifnonnull {x : Nat} {off : Int} (tg : Nat) (h : cb_ok X cc own E fr lo nL) (hd : decode cc pc = .ok (.ifnonnull off, 3)) (ht : (pc : Int) + off = (tg : Int)) (kk : cb_V X w tg lv st) : cb_V X w pc lv (.ref x :: st) := by
  obtain ⟨p, l, e, R, s, m, args, below, meth, c, D, A, kX, nX, Q⟩ := X
  exact fun H locs ls hP hD hS hl => lv_ifnonnull h.1 h.2.1 hd ht (kk H locs ls hP hD hS hl)
theorem cb_ifnonnullN {off : Int} (nx : Nat) (h : cb_ok X cc own E fr lo nL) (hd : decode cc pc = .ok (.ifnonnull off, 3)) (hn : pc + 3 = nx) (kk : cb_V X w nx lv st) : cb_V X w pc lv (.null :: st) := by
  subst hn
  obtain ⟨p, l, e, R, s, m, args, below, meth, c, D, A, kX, nX, Q⟩ := X
  exact fun H locs ls hP hD hS hl => lv_ifnonnullN h.1 h.2.1 hd (kk H locs ls hP hD hS hl)
theorem cb_ifnull {x : Nat} {off : Int} (nx : Nat) (h : cb_ok X cc own E fr lo nL) (hd : decode cc pc = .ok (.ifnull off, 3)) (hn : pc + 3 = nx) (kk : cb_V X w nx lv st) : cb_V X w pc lv (.ref x :: st) := by
  subst hn
  obtain ⟨p, l, e, R, s, m, args, below, meth, c, D, A, kX, nX, Q⟩ := X
  exact fun H locs ls hP hD hS hl => lv_ifnull h.1 h.2.1 hd (kk H locs ls hP hD hS hl)
theorem cb_ifnullN {off : Int} (tg : Nat) (h : cb_ok X cc own E fr lo nL) (hd : decode cc pc = .ok (.ifnull off, 3)) (ht : (pc : Int) + off = (tg : Int)) (kk : cb_V X w tg lv st) : cb_V X w pc lv (.null :: st) := by
  obtain ⟨p, l, e, R, s, m, args, below, meth, c, D, A, kX, nX, Q⟩ := X
  exact fun H locs ls hP hD hS hl => lv_ifnullN h.1 h.2.1 hd ht (kk H locs ls hP hD hS hl)
theorem cb_look {dflt : Int} {ps : Array (Int × Int)} {len : Nat} {x : Int32} {off : Int} (tg : Nat) (h : cb_ok X cc own E fr lo nL) (hd : decode cc pc = .ok (.lookupswitch dflt ps, len)) (hp : (ps.toList.zip (ps.toList.drop 1)).all (fun (a, next) => a.1 < next.1) = true) (ho : Op.lookupswitch.offset ps.toList dflt x.toInt = off) (ht : (pc : Int) + off = (tg : Int)) (kk : cb_V X w tg lv st) : cb_V X w pc lv (.int x :: st) := by
  obtain ⟨p, l, e, R, s, m, args, below, meth, c, D, A, kX, nX, Q⟩ := X
  exact fun H locs ls hP hD hS hl => lv_lookup h.1 h.2.1 hd hp ho ht (kk H locs ls hP hD hS hl)
theorem cb_tabO {dflt lo0 hi : Int} {offs : Array Int} {len : Nat} {x : Int32} (tg : Nat) (h : cb_ok X cc own E fr lo nL) (hd : decode cc pc = .ok (.tableswitch dflt lo0 hi offs, len)) (hx : x.toInt < lo0 ∨ hi < x.toInt) (ht : (pc : Int) + dflt = (tg : Int)) (kk : cb_V X w tg lv st) : cb_V X w pc lv (.int x :: st) := by
  obtain ⟨p, l, e, R, s, m, args, below, meth, c, D, A, kX, nX, Q⟩ := X
  exact fun H locs ls hP hD hS hl => lv_tableOut h.1 h.2.1 hd hx ht (kk H locs ls hP hD hS hl)
theorem cb_tabI {dflt lo0 hi : Int} {offs : Array Int} {len : Nat} {x y : Int32} {off : Int} (tg : Nat) (h : cb_ok X cc own E fr lo nL) (hd : decode cc pc = .ok (.tableswitch dflt lo0 hi offs, len)) (he : x = y) (h1 : ¬ y.toInt < lo0) (h2 : ¬ hi < y.toInt) (ho : offs[(y.toInt - lo0).toNat]? = some off) (ht : (pc : Int) + off = (tg : Int)) (kk : cb_V X w tg lv st) : cb_V X w pc lv (.int x :: st) := by
  subst he
  obtain ⟨p, l, e, R, s, m, args, below, meth, c, D, A, kX, nX, Q⟩ := X
  exact fun H locs ls hP hD hS hl => lv_tableIn h.1 h.2.1 hd h1 h2 ho ht (kk H locs ls hP hD hS hl)
theorem cb_iald {a : Nat} {cA : ClassId} {len : Nat} {f : Nat → Int32} {i : Int32} (nx q t : Nat) (h : cb_ok X cc own E fr lo nL) (hd : decode cc pc = .ok (.iaload, 1)) (hn : pc + 1 = nx) (hq : w[q]? = some (a, .inl (cA, len, .inl f))) (ht : E.2.2[t]? = some (cA, .int)) (hi : vp_in i len) (kk : cb_V X w nx lv (.int (f i.toNatClampNeg) :: st)) : cb_V X w pc lv (.int i :: .ref a :: st) := by
  subst hn
  obtain ⟨p, l, e, R, s, m, args, below, meth, c, D, A, kX, nX, Q⟩ := X
  exact fun H locs ls hP hD hS hl => va_iald h.1 h.2.1 h.2.2.2.2.2.2.1 hP q t hq ht hi hd (kk H locs ls hP hD hS hl)
theorem cb_zald {a : Nat} {cA : ClassId} {len : Nat} {f : Nat → Int32} {i : Int32} (nx q t : Nat) (h : cb_ok X cc own E fr lo nL) (hd : decode cc pc = .ok (.baload, 1)) (hn : pc + 1 = nx) (hq : w[q]? = some (a, .inl (cA, len, .inl f))) (ht : E.2.2[t]? = some (cA, .boolean)) (hi : vp_in i len) (kk : cb_V X w nx lv (.int (f i.toNatClampNeg) :: st)) : cb_V X w pc lv (.int i :: .ref a :: st) := by
  subst hn
  obtain ⟨p, l, e, R, s, m, args, below, meth, c, D, A, kX, nX, Q⟩ := X
  exact fun H locs ls hP hD hS hl => va_zald h.1 h.2.1 h.2.2.2.2.2.2.1 hP q t hq ht hi hd (kk H locs ls hP hD hS hl)
theorem cb_iast {a : Nat} {cA : ClassId} {len : Nat} {f : Nat → Int32} {i x : Int32} {w' : va_W} (nx q t : Nat) (h : cb_ok X cc own E fr lo nL) (hd : decode cc pc = .ok (.iastore, 1)) (hn : pc + 1 = nx) (hq : w[q]? = some (a, .inl (cA, len, .inl f))) (ht : E.2.2[t]? = some (cA, .int)) (hi : vp_in i len) (hw : w.set q (a, .inl (cA, len, .inl (upd f i.toNatClampNeg x))) = w') (kk : cb_V X w' nx lv st) : cb_V X w pc lv (.int x :: .int i :: .ref a :: st) := by
  subst hn; subst hw
  obtain ⟨p, l, e, R, s, m, args, below, meth, c, D, A, kX, nX, Q⟩ := X
  exact fun H locs ls hP hD hS hl => va_iast h.1 h.2.1 h.2.2.2.2.2.2.1 hP hD hS q t hq ht hi hd (fun H1 locs1 hP hD hS => kk H1 locs1 ls hP hD hS hl)
theorem cb_zast {a : Nat} {cA : ClassId} {len : Nat} {f : Nat → Int32} {i x : Int32} {w' : va_W} (nx q t : Nat) (h : cb_ok X cc own E fr lo nL) (hd : decode cc pc = .ok (.bastore, 1)) (hn : pc + 1 = nx) (hq : w[q]? = some (a, .inl (cA, len, .inl f))) (ht : E.2.2[t]? = some (cA, .boolean)) (hi : vp_in i len) (hx : cb_01 x) (hw : w.set q (a, .inl (cA, len, .inl (upd f i.toNatClampNeg x))) = w') (kk : cb_V X w' nx lv st) : cb_V X w pc lv (.int x :: .int i :: .ref a :: st) := by
  subst hn; subst hw
  rw [← cb_01_v hx] at kk
  obtain ⟨p, l, e, R, s, m, args, below, meth, c, D, A, kX, nX, Q⟩ := X
  exact fun H locs ls hP hD hS hl => va_zast h.1 h.2.1 h.2.2.2.2.2.2.1 hP hD hS q t hq ht hi hd (fun H1 locs1 hP hD hS => kk H1 locs1 ls hP hD hS hl)
theorem cb_aald {a : Nat} {cA : ClassId} {C : String} {len b : Nat} {f : Nat → Option Nat} {i : Int32} (nx q t : Nat) (h : cb_ok X cc own E fr lo nL) (hd : decode cc pc = .ok (.aaload, 1)) (hn : pc + 1 = nx) (hq : w[q]? = some (a, .inl (cA, len, .inr (.inr (.inr (.inr f)))))) (ht : E.2.2[t]? = some (cA, .object C)) (hi : vp_in i len) (hf : f i.toNatClampNeg = some b) (kk : cb_V X w nx lv (.ref b :: st)) : cb_V X w pc lv (.int i :: .ref a :: st) := by
  subst hn
  obtain ⟨p, l, e, R, s, m, args, below, meth, c, D, A, kX, nX, Q⟩ := X
  exact fun H locs ls hP hD hS hl => va_aldq h.1 h.2.1 h.2.2.2.2.2.2.1 hP q t hq ht hi hd (by rw [hf]; exact kk H locs ls hP hD hS hl)
theorem cb_alen {a : Nat} {cA : ClassId} {x : vp_A} {ty : FieldType} {v : Int32} (nx q t : Nat) (h : cb_ok X cc own E fr lo nL) (hd : decode cc pc = .ok (.arraylength, 1)) (hn : pc + 1 = nx) (hq : w[q]? = some (a, .inl (cA, x))) (ht : E.2.2[t]? = some (cA, ty)) (hv : Int32.ofNat x.1 = v) (kk : cb_V X w nx lv (.int v :: st)) : cb_V X w pc lv (.ref a :: st) := by
  subst hn
  obtain ⟨p, l, e, R, s, m, args, below, meth, c, D, A, kX, nX, Q⟩ := X
  exact fun H locs ls hP hD hS hl => va_alen h.1 h.2.1 h.2.2.2.2.2.2.1 hP q t hq ht hv hd (kk H locs ls hP hD hS hl)
/-- fields: by a plain link and by a nest mate's -/
theorem cb_get {ref C : String} {T : u_T} {N ci index a : Nat} {fs : List Value} {v : Value} (nx q k : Nat) (h : cb_ok X cc own E fr lo nL) (hd : decode cc pc = .ok (.getfield index, 3)) (hn : pc + 3 = nx) (hin : ∀ w ∈ u_ws C T N, w ∈ E.1) (hq : w[q]? = some (a, .inr (ci, fs))) (hc : vwCl[ci]? = some (C, T, N)) (hk : k < N) (hl : Cond.fieldLink own index ref (T k).2.1 (T k).2.2.1 ∈ E.1) (hs : ref = (T k).1 ∨ Cond.sameField ref (T k).1 (T k).2.1 (T k).2.2.1 ∈ E.1) (hv : fs[k]? = some v) (kk : cb_V X w nx lv (v :: st)) : cb_V X w pc lv (.ref a :: st) := by
  subst hn
  obtain ⟨p, l, e, R, s, m, args, below, meth, c, D, A, kX, nX, Q⟩ := X
  refine fun H locs ls hP hD hS hl0 => va_get h.1 h.2.1 h.2.2.2.2.1 hin h.2.2.2.1 h.2.2.2.2.2.2.1 hP q hq hc k hk (h.2.2.2.2.1 _ hl) ?_ hv hd (kk H locs ls hP hD hS hl0)
  rcases hs with rfl | hs
  · exact fun x hx => hx
  · exact fun x hx => u_same (h.2.2.2.2.1 _ hs) x hx
theorem cb_getN {ref C host : String} {T : u_T} {N ci index a : Nat} {fs : List Value} {v : Value} (nx q k : Nat) (h : cb_ok X cc own E fr lo nL) (hd : decode cc pc = .ok (.getfield index, 3)) (hn : pc + 3 = nx) (hin : ∀ w ∈ u_ws C T N, w ∈ E.1) (hq : w[q]? = some (a, .inr (ci, fs))) (hc : vwCl[ci]? = some (C, T, N)) (hk : k < N) (hl : Cond.fieldLinkNest own index ref (T k).2.1 (T k).2.2.1 host ∈ E.2.1) (hs : ref = (T k).1 ∨ Cond.sameField ref (T k).1 (T k).2.1 (T k).2.2.1 ∈ E.1) (hv : fs[k]? = some v) (kk : cb_V X w nx lv (v :: st)) : cb_V X w pc lv (.ref a :: st) := by
  subst hn
  obtain ⟨p, l, e, R, s, m, args, below, meth, c, D, A, kX, nX, Q⟩ := X
  refine fun H locs ls hP hD hS hl0 => va_getN h.1 h.2.1 h.2.2.2.2.1 hin h.2.2.2.1 h.2.2.2.2.2.2.1 hP q hq hc k hk (va_Nw.use rfl (h.2.2.2.2.2.1 _ hl)) ?_ hv hd (kk H locs ls hP hD hS hl0)
  rcases hs with rfl | hs
  · exact fun x hx => hx
  · exact fun x hx => u_same (h.2.2.2.2.1 _ hs) x hx
theorem cb_put {ref C : String} {T : u_T} {N ci index a : Nat} {fs : List Value} {v : Value} {ty0 : Nat → FieldType} {ty : FieldType} {w' : va_W} (nx q k : Nat) (h : cb_ok X cc own E fr lo nL) (hd : decode cc pc = .ok (.putfield index, 3)) (hn : pc + 3 = nx) (hin : ∀ w ∈ u_ws C T N, w ∈ E.1) (hty : ∀ k, k < N → parseFieldDescriptor (T k).2.2.1 = some (ty0 k)) (hnm : ∀ a, a < N → ∀ b, b < N → a ≠ b → (T a).2.1 ≠ (T b).2.1) (hq : w[q]? = some (a, .inr (ci, fs))) (hc : vwCl[ci]? = some (C, T, N)) (hk : k < N) (hl : Cond.fieldLink own index ref (T k).2.1 (T k).2.2.1 ∈ E.1) (hs : ref = (T k).1 ∨ Cond.sameField ref (T k).1 (T k).2.1 (T k).2.2.1 ∈ E.1) (hfin : (T k).2.2.2 = false) (hdd : parseFieldDescriptor (T k).2.2.1 = some ty) (hnn : narrow ty v = v) (hfit : fits ty v = true) (hlen : k < fs.length) (hw : w.set q (a, .inr (ci, fs.set k v)) = w') (kk : cb_V X w' nx lv st) : cb_V X w pc lv (v :: .ref a :: st) := by
  subst hn; subst hw
  obtain ⟨p, l, e, R, s, m, args, below, meth, c, D, A, kX, nX, Q⟩ := X
  refine fun H locs ls hP hD hS hl0 => va_put h.1 h.2.1 h.2.2.2.2.1 hin ty0 hty hnm h.2.2.2.1 h.2.2.2.2.2.2.1 hP hD hS q hq hc k hk (h.2.2.2.2.1 _ hl) ?_ hfin hdd hnn hfit hlen hd (fun H1 locs1 hP hD hS => kk H1 locs1 ls hP hD hS hl0)
  rcases hs with rfl | hs
  · exact fun x hx => hx
  · exact fun x hx => u_same (h.2.2.2.2.1 _ hs) x hx
theorem cb_putN {ref C host : String} {T : u_T} {N ci index a : Nat} {fs : List Value} {v : Value} {ty0 : Nat → FieldType} {ty : FieldType} {w' : va_W} (nx q k : Nat) (h : cb_ok X cc own E fr lo nL) (hd : decode cc pc = .ok (.putfield index, 3)) (hn : pc + 3 = nx) (hin : ∀ w ∈ u_ws C T N, w ∈ E.1) (hty : ∀ k, k < N → parseFieldDescriptor (T k).2.2.1 = some (ty0 k)) (hnm : ∀ a, a < N → ∀ b, b < N → a ≠ b → (T a).2.1 ≠ (T b).2.1) (hq : w[q]? = some (a, .inr (ci, fs))) (hc : vwCl[ci]? = some (C, T, N)) (hk : k < N) (hl : Cond.fieldLinkNest own index ref (T k).2.1 (T k).2.2.1 host ∈ E.2.1) (hs : ref = (T k).1 ∨ Cond.sameField ref (T k).1 (T k).2.1 (T k).2.2.1 ∈ E.1) (hfin : (T k).2.2.2 = false) (hdd : parseFieldDescriptor (T k).2.2.1 = some ty) (hnn : narrow ty v = v) (hfit : fits ty v = true) (hlen : k < fs.length) (hw : w.set q (a, .inr (ci, fs.set k v)) = w') (kk : cb_V X w' nx lv st) : cb_V X w pc lv (v :: .ref a :: st) := by
  subst hn; subst hw
  obtain ⟨p, l, e, R, s, m, args, below, meth, c, D, A, kX, nX, Q⟩ := X
  refine fun H locs ls hP hD hS hl0 => va_putN h.1 h.2.1 h.2.2.2.2.1 hin ty0 hty hnm h.2.2.2.1 h.2.2.2.2.2.2.1 hP hD hS q hq hc k hk (va_Nw.use rfl (h.2.2.2.2.2.1 _ hl)) ?_ hfin hdd hnn hfit hlen hd (fun H1 locs1 hP hD hS => kk H1 locs1 ls hP hD hS hl0)
  rcases hs with rfl | hs
  · exact fun x hx => hx
  · exact fun x hx => u_same (h.2.2.2.2.1 _ hs) x hx
end CBR
/-! Contracts over cb_V, and calls. -/
def cb_Q (D : va_G) (as : List Nat) (ret : Option Value) (w' : va_W) : Array Value → State → Outcome → State → Prop := fun _ st oc t => oc = .returned ret ∧ va_P D vwCl w' t.heap ∧ va_F (fun q => q ∈ as) st t
def cb_B (D : va_G) (E : cb_E) (as : List Nat) (w : va_W) (U : State) : Prop := va_P D vwCl w U.heap ∧ va_K D vwCl E.2.2 U ∧ (∀ x ∈ E.2.1, va_Nw x U) ∧ va_D (fun q => q ∈ as) w
/-- a contract: from the world w with the arguments av it answers ret and leaves the world w'; nothing is made, nothing else written -/
def cb_C (l : Launch) (y : MethodName) (bytes : ByteArray) (maxL : Nat) (rt : Option FieldType) (rm : Room) (D : va_G) (E : cb_E) (as : List Nat) (av : List Value) (w : va_W) (ret : Option Value) (w' : va_W) : Prop := Met l y (Cond.code y bytes maxL rt :: E.1) rm (va_Pc av (cb_B D E as w)) (cb_Q D as ret w') 0 0 (fun q => q ∈ as)
/-- the end that a contract asks for -/
def cb_end (X : cb_X) (rt : Option FieldType) (as : List Nat) (ret : Option Value) (w' : va_W) : Prop := match X with
  | (_, _, _, _, s, _, args, below, meth, _, D, A, k, n, Q) => Q = MQ below (cb_Q D as ret w') args s k n A ∧ A = (fun q => q ∈ as) ∧ meth.sig.returnType = rt ∧ meth.locks = false
theorem cb_mk {l : Launch} {y : MethodName} {cc : ByteArray} {maxL : Nat} {rt : Option FieldType} {rm : Room} {D : va_G} {E : cb_E} {as : List Nat} {av : List Value} {w w' : va_W} {ret : Option Value} (lv : List (Nat × Value)) (hy : plainName y.cls = true) (hav : (lg_sl av).length ≤ maxL) (hlv : lv_args 0 av = lv)
    (body : ∀ X : cb_X, cb_ok X cc y.cls E rm.frames rm.locals maxL → cb_end X rt as ret w' → cb_V X w 0 lv []) (hg : cb_good E) : cb_C l y cc maxL rt rm D E as av w ret w' := by
  refine Met.ofW hy rfl ?_
  intro p e s m args below meth c s₁ B hml hv
  obtain ⟨rfl, hP, hK, hN, hD⟩ := hv
  have hts := atoms_spec B.pre
  have hl := lv_entry av (n := maxL) hav
  rw [lg_entry_eq]
  have hown : s.vm.findClass y.cls = some m.cls := findClass_of_methodNamed B.named
  have K := body (p, l, e, (headSpec (Cond.code y cc maxL rt :: E.1) rm).room, s, m, av.toArray, below, meth, c, D, (fun q => q ∈ as), 0, 0, MQ below (cb_Q D as ret w') av.toArray s 0 0 (fun q => q ∈ as))
    ⟨B.exec, B.bytes, hml, hown, fun w h => hts w (List.mem_cons_of_mem _ h), hN, hK, Nat.le_refl _, Nat.le_refl _, Nat.zero_le _, Nat.zero_le _, hg⟩ ⟨rfl, rfl, B.returns, B.notSynchronized⟩
  exact K s.heap [] _ hP hD va_S.rf (by rw [hml, ← hlv]; exact hl)
theorem cb_D_congr {A : Nat → Prop} {w1 w2 : va_W} (h : va_D A w1) (e : w2.map Prod.fst = w1.map Prod.fst) : va_D A w2 := by
  have g : ∀ (i : Nat) (p : Nat × va_E), w2[i]? = some p → ∃ p', w1[i]? = some p' ∧ p'.1 = p.1 := by
    intro i p hp
    have h1 : (w2.map Prod.fst)[i]? = some p.1 := by rw [List.getElem?_map, hp]; rfl
    rw [e, List.getElem?_map] at h1
    cases hw : w1[i]? with
    | none => rw [hw] at h1; cases h1
    | some p' => rw [hw] at h1; exact ⟨p', rfl, Option.some.inj h1⟩
  refine ⟨fun i j p q hp hq hpq => ?_, fun k q hq => ?_⟩
  · obtain ⟨p', h1, e1⟩ := g i p hp
    obtain ⟨q', h2, e2⟩ := g j q hq
    exact h.1 i j p' q' h1 h2 (by rw [e1, e2]; exact hpq)
  · obtain ⟨q', h1, e1⟩ := g k q hq
    rw [← e1]; exact h.2 k q' h1
theorem cb_mem_fst {w : va_W} {q : Nat} (h : q ∈ w.map Prod.fst) : ∃ (k : Nat) (e : va_E), w[k]? = some (q, e) := by
  obtain ⟨x, hx, rfl⟩ := List.mem_map.mp h
  obtain ⟨k, hk⟩ := List.getElem?_of_mem hx
  exact ⟨k, x.2, hk⟩
section CBC
variable {X : cb_X} {w : va_W} {pc : Nat} {lv : List (Nat × Value)} {st : List Value} {cc : ByteArray} {own : String} {E : cb_E} {fr lo nL : Nat}
/-- the launch and the numbers of a machine -/
abbrev cb_l (X : cb_X) : Launch := X.2.1
abbrev cb_D (X : cb_X) : va_G := X.2.2.2.2.2.2.2.2.2.2.1
theorem cb_after {p : Program} {l : Launch} {e : Env} {R : Room} {s : State} {m : MethodId} {args : Array Value} {below : List Frame} {meth : Method} {c : Code} {H : Heap} {locs : List Loc} {k n : Nat} {Q : State → Prop} {ls : Array Slot} {st0 : List Value} {D : va_G} {as : List Nat} {ret : Option Value} {w1 w1' r w' : va_W} {a0 : Array Value} {A : Nat → Prop}
    (hr : va_Run p l e R s m args below meth c H locs k n 0 0 (F0 m pc ls st0) st (cb_Q D as ret w1' a0) (fun q => q ∈ as)) (hw : w1 ++ r = w) (hw' : w1' ++ r = w') (ha : w1.map Prod.fst = as) (ha' : w1'.map Prod.fst = as) (hP : va_P D vwCl w H) (hD : va_D A w) (hS : va_S A s.heap H locs)
    (kk : ∀ (H1 : Heap) (locs1 : List Loc), va_P D vwCl w' H1 → va_D A w' → va_S A s.heap H1 locs1 → W p l e R s m args below meth c H1 locs1 k n Q (F0 m (pc + 3) ls (ret.toList ++ st))) : W p l e R s m args below meth c H locs k n Q (F0 m pc ls st0) := by
  subst hw; subst hw'
  have hasA : ∀ q, q ∈ as → A q := fun q hq => by
    rw [← ha] at hq
    obtain ⟨i, e, hi⟩ := cb_mem_fst hq
    exact hD.2 i (q, e) (by rw [List.getElem?_append_left (List.getElem?_eq_some_iff.mp hi).1]; exact hi)
  have hapart : ∀ (i : Nat) (x : Nat × va_E), r[i]? = some x → ¬ x.1 ∈ as := fun i x hx hq => by
    rw [← ha] at hq
    obtain ⟨j, e, hj⟩ := cb_mem_fst hq
    have hjl := (List.getElem?_eq_some_iff.mp hj).1
    have h1 : (w1 ++ r)[j]? = some (x.1, e) := by rw [List.getElem?_append_left hjl]; exact hj
    have h2 : (w1 ++ r)[w1.length + i]? = some x := by rw [List.getElem?_append_right (Nat.le_add_right _ _), Nat.add_sub_cancel_left]; exact hx
    have := hD.1 j (w1.length + i) (x.1, e) x h1 h2 rfl
    omega
  intro T hT X
  obtain ⟨v, st₀, t, T', L, h0, X', hL, e1, e2, ⟨hv, hP1, hz, hk⟩, stp⟩ := hr T hT X
  cases hv
  rw [h0] at hz hk
  have hPr : va_P D vwCl r T'.heap := fun i x hx => by
    have h2 : (w1 ++ r)[w1.length + i]? = some x := by rw [List.getElem?_append_right (Nat.le_add_right _ _), Nat.add_sub_cancel_left]; exact hx
    have hat := hP _ x h2
    exact hat.kept (by rw [e1]; exact hk x.1 hat.lt (hapart i x hx))
  have hS1 : va_S A s.heap T'.heap (locs ++ L) := ⟨Nat.le_trans hS.1 (by rw [e1]; exact hz), fun q h1 h2 => by rw [e1, hk q (Nat.lt_of_lt_of_le h1 hS.1) (fun z => h2 (hasA q z))]; exact hS.2.1 q h1 h2, fun q hq => by
    rcases List.mem_append.mp hq with h | h
    · exact hS.2.2 q h
    · exact hasA _ (hL q h)⟩
  obtain ⟨t2, a1, b1⟩ := kk T'.heap (locs ++ L) (va_P.app (by rw [e1]; exact hP1) hPr) (cb_D_congr hD (by rw [List.map_append, List.map_append, ha, ha'])) hS1 T' rfl X'
  exact ⟨t2, stp t2 a1, b1⟩
/-- the words of a call -/
def cb_lk (E : cb_E) (own : String) (index : Nat) (y : MethodName) (bytes : ByteArray) (maxL : Nat) (rt : Option FieldType) (n : Nat) : Prop := Cond.methodLink own index y ∈ E.1 ∧ Cond.code y bytes maxL rt ∈ E.1 ∧ Cond.initialized y.cls ∈ E.1 ∧ (y.cls ≠ "java/lang/invoke/MethodHandle" ∧ y.cls ≠ "java/lang/invoke/VarHandle") ∧ (parseMethodDescriptor y.desc).map (fun d => d.parameters.length) = some n
theorem cb_goodIn {y : MethodName} {bytes : ByteArray} {maxL : Nat} {rt : Option FieldType} (hg : cb_good E) (hc : Cond.code y bytes maxL rt ∈ E.1) : GoodIn E.1 (Cond.code y bytes maxL rt :: E.1) := by
  intro x hx
  rcases List.mem_cons.mp hx with rfl | hx
  · exact ⟨hc, hg.1 _ hc⟩
  · exact ⟨hx, hg.1 _ hx⟩
theorem cb_blind {D : va_G} {as : List Nat} {av : List Value} (hg : cb_good E) : FrameBlind (va_Pc av (cb_B D E as w)) := by
  intro a U g mk q
  obtain ⟨q0, qP, qK, qN, qD⟩ := q
  exact ⟨q0, qP, va_K.moved (u := U) (U := U.calling g mk a) (Vm.Alike.refl U.vm) qK, fun x hx => va_Nw.same (hg.2 x hx).1 (u := U) (U := U.calling g mk a) rfl (qN x hx), qD⟩
theorem cb_pre {p : Program} {s : State} {H : Heap} {D : va_G} {as : List Nat} {av : List Value} {A : Nat → Prop} {w1 r : va_W} (hg : cb_good E) (hP : va_P D vwCl w H) (hD : va_D A w) (hK : va_K D vwCl E.2.2 s) (hN : ∀ x ∈ E.2.1, va_Nw x s) (hw : w1 ++ r = w) (ha : w1.map Prod.fst = as) : ∀ U : State, U.heap = H → s.WarmedH U.vm → va_Pc av (cb_B D E as w1) av.toArray U := by
  intro U hU hW
  subst hw
  refine ⟨rfl, ?_, va_K.moved hW.alike hK, fun x hx => (hg.2 x hx).2 s U hW (hN x hx), ?_⟩
  · rw [hU]
    exact fun i x hx => hP i x (by rw [List.getElem?_append_left (List.getElem?_eq_some_iff.mp hx).1]; exact hx)
  · refine ⟨fun i j x y hx hy hxy => hD.1 i j x y (by rw [List.getElem?_append_left (List.getElem?_eq_some_iff.mp hx).1]; exact hx) (by rw [List.getElem?_append_left (List.getElem?_eq_some_iff.mp hy).1]; exact hy) hxy, fun i x hx => ?_⟩
    show x.1 ∈ as
    rw [← ha]
    exact List.mem_map.mpr ⟨x, List.mem_of_getElem? hx, rfl⟩
/-- invokevirtual by a plain link -/
theorem cb_callV {y : MethodName} {bytes : ByteArray} {maxL n index ci b : Nat} {rt : Option FieldType} {rm : Room} {as : List Nat} {As st0 : List Value} {w1 w1' r w' : va_W} {ret : Option Value} {fs : List Value} {cq : vw_C} (nx q : Nat) (h : cb_ok X cc own E fr lo nL) (hd : decode cc pc = .ok (.invokevirtual index, 3)) (hn : pc + 3 = nx)
    (hM : cb_C (cb_l X) y bytes maxL rt rm (cb_D X) E as (.ref b :: As) w1 ret w1') (hx : cb_lk E own index y bytes maxL rt n) (hi : Cond.instanceMethod y ∈ E.1 ∧ Cond.selects cq.1 y y ∈ E.1) (hq : w[q]? = some (b, .inr (ci, fs))) (hc : vwCl[ci]? = some cq) (hw : w1 ++ r = w) (hw' : w1' ++ r = w') (ha : w1.map Prod.fst = as) (ha' : w1'.map Prod.fst = as)
    (hr : rm.cells = 0 ∧ rm.slots = 0 ∧ rm.frames + 1 ≤ fr ∧ 8 + (maxL + 11) + rm.locals ≤ lo) (hs : st0 = As.reverse ++ .ref b :: st) (hsz : As.length = n) (hst : (st.map fun v => v.category).sum ≤ 8) (kk : cb_V X w' nx lv (ret.toList ++ st)) : cb_V X w pc lv st0 := by
  subst hn; subst hs
  obtain ⟨p, l, e, R, s, m, args, below, meth, c, D, A, kX, nX, Q⟩ := X
  obtain ⟨hx0, hb, hml, hown, hts, hN, hK, hfr, hlo, hce, hsl, hg⟩ := h
  intro H locs ls hP hD hS hl
  refine cb_after (va_runV (As := As) (rest := st) (n := As.length) (bytes := bytes) (maxL := maxL) (ret := rt) (C := cq.1) ⟨hx0, hb, hml, hown, hts⟩ hM
    ⟨⟨hr.1, hr.2.1, Nat.le_trans hr.2.2.1 hfr, Nat.le_trans hr.2.2.2 hlo, pay_in hts (cb_goodIn hg hx.2.1), List.mem_cons_self, hts _ hx.2.1, hts _ hx.2.2.1, hx.2.2.2.1, fun sig hsig => by have h2 := hx.2.2.2.2; rw [hsig] at h2; rw [hsz]; exact (Option.some.inj h2).symm, hts _ hx.1⟩, hts _ hi.1, hts _ hi.2⟩
    ⟨cb_blind hg, va_recv hK hP hc hq, cb_pre (p := p) hg hP hD hK hN hw ha⟩ rfl rfl (hml ▸ hl.1) rfl (lv_room hst) hd ⟨hce, hsl⟩) hw hw' ha ha' hP hD hS (fun H1 locs1 hP1 hD1 hS1 => kk H1 locs1 ls hP1 hD1 hS1 hl)
/-- invokevirtual whose named method is another one's: inherited, overridden or abstract -/
theorem cb_callU {x y : MethodName} {owner : String} {bytes : ByteArray} {maxL n index ci b : Nat} {rt : Option FieldType} {rm : Room} {as : List Nat} {As st0 : List Value} {w1 w1' r w' : va_W} {ret : Option Value} {fs : List Value} {cq : vw_C} (nx q : Nat) (h : cb_ok X cc own E fr lo nL) (hd : decode cc pc = .ok (.invokevirtual index, 3)) (hn : pc + 3 = nx)
    (hM : cb_C (cb_l X) y bytes maxL rt rm (cb_D X) E as (.ref b :: As) w1 ret w1') (hx : Cond.methodLink own index x ∈ E.1 ∧ Cond.sameMethod x.cls owner x.name x.desc ∈ E.1 ∧ Cond.selects cq.1 x y ∈ E.1 ∧ Cond.instanceMethod y ∈ E.1 ∧ Cond.code y bytes maxL rt ∈ E.1 ∧ Cond.initialized y.cls ∈ E.1 ∧ Cond.declares ⟨owner, x.name, x.desc⟩ ∈ E.2.1 ∧ (owner ≠ "java/lang/invoke/MethodHandle" ∧ owner ≠ "java/lang/invoke/VarHandle") ∧ (parseMethodDescriptor x.desc).map (fun d => d.parameters.length) = some n) (hq : w[q]? = some (b, .inr (ci, fs))) (hc : vwCl[ci]? = some cq) (hw : w1 ++ r = w) (hw' : w1' ++ r = w') (ha : w1.map Prod.fst = as) (ha' : w1'.map Prod.fst = as)
    (hr : rm.cells = 0 ∧ rm.slots = 0 ∧ rm.frames + 1 ≤ fr ∧ 8 + (maxL + 11) + rm.locals ≤ lo) (hs : st0 = As.reverse ++ .ref b :: st) (hsz : As.length = n) (hst : (st.map fun v => v.category).sum ≤ 8) (kk : cb_V X w' nx lv (ret.toList ++ st)) : cb_V X w pc lv st0 := by
  subst hn; subst hs
  obtain ⟨p, l, e, R, s, m, args, below, meth, c, D, A, kX, nX, Q⟩ := X
  obtain ⟨hx0, hb, hml, hown, hts, hN, hK, hfr, hlo, hce, hsl, hg⟩ := h
  obtain ⟨x1, x2, x3, x4, x5, x6, x7, x8, x9⟩ := hx
  intro H locs ls hP hD hS hl
  refine cb_after (va_runU (x := x) (owner := owner) (As := As) (rest := st) (n := As.length) (bytes := bytes) (maxL := maxL) (ret := rt) (C := cq.1) ⟨hx0, hb, hml, hown, hts⟩ hM
    ⟨⟨hr.1, hr.2.1, Nat.le_trans hr.2.2.1 hfr, Nat.le_trans hr.2.2.2 hlo, pay_in hts (cb_goodIn hg x5), List.mem_cons_self⟩, hts _ x5, hts _ x6, x8, fun sig hsig => by rw [hsig] at x9; rw [hsz]; exact (Option.some.inj x9).symm, hts _ x1, hts _ x2, va_Decl.abs (hN _ x7), hts _ x3, hts _ x4⟩
    ⟨cb_blind hg, va_recv hK hP hc hq, cb_pre (p := p) hg hP hD hK hN hw ha⟩ rfl rfl (hml ▸ hl.1) rfl (lv_room hst) hd ⟨hce, hsl⟩) hw hw' ha ha' hP hD hS (fun H1 locs1 hP1 hD1 hS1 => kk H1 locs1 ls hP1 hD1 hS1 hl)
/-- invokestatic by a plain link -/
theorem cb_callS {y : MethodName} {bytes : ByteArray} {maxL n index : Nat} {rt : Option FieldType} {rm : Room} {as : List Nat} {As st0 : List Value} {w1 w1' r w' : va_W} {ret : Option Value} (nx : Nat) (h : cb_ok X cc own E fr lo nL) (hd : decode cc pc = .ok (.invokestatic index, 3)) (hn : pc + 3 = nx)
    (hM : cb_C (cb_l X) y bytes maxL rt rm (cb_D X) E as As w1 ret w1') (hx : cb_lk E own index y bytes maxL rt n) (hi : Cond.static y ∈ E.1) (hw : w1 ++ r = w) (hw' : w1' ++ r = w') (ha : w1.map Prod.fst = as) (ha' : w1'.map Prod.fst = as)
    (hr : rm.cells = 0 ∧ rm.slots = 0 ∧ rm.frames + 1 ≤ fr ∧ 8 + (maxL + 11) + rm.locals ≤ lo) (hs : st0 = As.reverse ++ st) (hsz : As.length = n) (hst : (st.map fun v => v.category).sum ≤ 8) (kk : cb_V X w' nx lv (ret.toList ++ st)) : cb_V X w pc lv st0 := by
  subst hn; subst hs
  obtain ⟨p, l, e, R, s, m, args, below, meth, c, D, A, kX, nX, Q⟩ := X
  obtain ⟨hx0, hb, hml, hown, hts, hN, hK, hfr, hlo, hce, hsl, hg⟩ := h
  intro H locs ls hP hD hS hl
  refine cb_after (va_runS (As := As) (rest := st) (n := As.length) (bytes := bytes) (maxL := maxL) (ret := rt) ⟨hx0, hb, hml, hown, hts⟩ hM
    ⟨⟨hr.1, hr.2.1, Nat.le_trans hr.2.2.1 hfr, Nat.le_trans hr.2.2.2 hlo, pay_in hts (cb_goodIn hg hx.2.1), List.mem_cons_self, hts _ hx.2.1, hts _ hx.2.2.1, hx.2.2.2.1, fun sig hsig => by have h2 := hx.2.2.2.2; rw [hsig] at h2; rw [hsz]; exact (Option.some.inj h2).symm, hts _ hx.1⟩, hts _ hi⟩
    ⟨cb_blind hg, cb_pre (p := p) hg hP hD hK hN hw ha⟩ rfl rfl (hml ▸ hl.1) rfl (lv_room hst) hd ⟨hce, hsl⟩) hw hw' ha ha' hP hD hS (fun H1 locs1 hP1 hD1 hS1 => kk H1 locs1 ls hP1 hD1 hS1 hl)
/-- the ends -/
theorem cb_retI {x r : Int32} {as : List Nat} {Wf : cb_S → va_W} {σ σ' : cb_S} (h : cb_ok X cc own E fr lo nL) (hd : decode cc pc = .ok (.ireturn, 1)) (he : cb_end X (some .int) as (some (.int r)) (Wf σ')) (hf : some (x, σ) = some (r, σ')) : cb_V X (Wf σ) pc lv [.int x] := by
  cases hf
  obtain ⟨p, l, e, R, s, m, args, below, meth, c, D, A, kX, nX, Q⟩ := X
  obtain ⟨rfl, rfl, hr, hk⟩ := he
  exact fun H locs ls hP hD hS hl => W.iret h.1 h.2.1 hr (fun t ht hW => ⟨rfl, by rw [ht]; exact hP, hS.F ht⟩) hS.2.2 hd (hlocks := hk)
theorem cb_retJ {x r : Int32} {as : List Nat} (h : cb_ok X cc own E fr lo nL) (hd : decode cc pc = .ok (.ireturn, 1)) (he : cb_end X (some .int) as (some (.int r)) w) (hf : some x = some r) : cb_V X w pc lv [.int x] := by
  cases hf
  obtain ⟨p, l, e, R, s, m, args, below, meth, c, D, A, kX, nX, Q⟩ := X
  obtain ⟨rfl, rfl, hr, hk⟩ := he
  exact fun H locs ls hP hD hS hl => W.iret h.1 h.2.1 hr (fun t ht hW => ⟨rfl, by rw [ht]; exact hP, hS.F ht⟩) hS.2.2 hd (hlocks := hk)
theorem cb_retZ {x r : Int32} {as : List Nat} {Wf : cb_S → va_W} {σ σ' : cb_S} (h : cb_ok X cc own E fr lo nL) (hd : decode cc pc = .ok (.ireturn, 1)) (he : cb_end X (some .boolean) as (some (.int r)) (Wf σ')) (hz : cb_01 x) (hf : some (x, σ) = some (r, σ')) : cb_V X (Wf σ) pc lv [.int x] := by
  cases hf
  obtain ⟨p, l, e, R, s, m, args, below, meth, c, D, A, kX, nX, Q⟩ := X
  obtain ⟨rfl, rfl, hr, hk⟩ := he
  exact fun H locs ls hP hD hS hl => W.zret h.1 h.2.1 hr (cb_01_n hz) (fun t ht hW => ⟨rfl, by rw [ht]; exact hP, hS.F ht⟩) hS.2.2 hd (hlocks := hk)
theorem cb_retB {x r : Int32} {as : List Nat} (h : cb_ok X cc own E fr lo nL) (hd : decode cc pc = .ok (.ireturn, 1)) (he : cb_end X (some .boolean) as (some (.int r)) w) (hz : cb_01 x) (hf : some x = some r) : cb_V X w pc lv [.int x] := by
  cases hf
  obtain ⟨p, l, e, R, s, m, args, below, meth, c, D, A, kX, nX, Q⟩ := X
  obtain ⟨rfl, rfl, hr, hk⟩ := he
  exact fun H locs ls hP hD hS hl => W.zret h.1 h.2.1 hr (cb_01_n hz) (fun t ht hW => ⟨rfl, by rw [ht]; exact hP, hS.F ht⟩) hS.2.2 hd (hlocks := hk)
theorem cb_retV {as : List Nat} {Wf : cb_S → va_W} {σ σ' : cb_S} (h : cb_ok X cc own E fr lo nL) (hd : decode cc pc = .ok (.return_, 1)) (he : cb_end X none as none (Wf σ')) (hf : some σ = some σ') : cb_V X (Wf σ) pc lv [] := by
  cases hf
  obtain ⟨p, l, e, R, s, m, args, below, meth, c, D, A, kX, nX, Q⟩ := X
  obtain ⟨rfl, rfl, hr, hk⟩ := he
  exact fun H locs ls hP hD hS hl => W.vret h.1 h.2.1 hr (fun t ht hW => ⟨rfl, by rw [ht]; exact hP, hS.F ht⟩) hS.2.2 hd (hlocks := hk)
/-- a reference or null, by the number of its cell -/
def cb_rv (a : Nat → Nat) (o : Option Nat) : Value := match o with
  | none => .null
  | some j => .ref (a j)
theorem cb_retA {as : List Nat} {a : Nat → Nat} {n : String} {o o' : Option Nat} (h : cb_ok X cc own E fr lo nL) (hd : decode cc pc = .ok (.areturn, 1)) (he : cb_end X (some (.object n)) as (some (cb_rv a o')) w) (hf : some o = some o') : cb_V X w pc lv [cb_rv a o] := by
  cases hf
  obtain ⟨p, l, e, R, s, m, args, below, meth, c, D, A, kX, nX, Q⟩ := X
  obtain ⟨rfl, rfl, hr, hk⟩ := he
  exact fun H locs ls hP hD hS hl => W.aret h.1 h.2.1 hr (Or.inl ⟨_, rfl⟩) (by cases o with | none => exact Or.inl rfl | some j => exact Or.inr ⟨_, rfl⟩) (fun t ht hW => ⟨rfl, by rw [ht]; exact hP, hS.F ht⟩) hS.2.2 hd (hlocks := hk)
end CBC
/-! Small words that the decompiled rows use. -/
def cb_in (i : Int32) (n : Nat) : Bool := !(decide (i < 0)) && decide (i.toNatClampNeg < n)
theorem cb_in_v {i : Int32} {n : Nat} (h : cb_in i n = true) : vp_in i n := by
  unfold cb_in at h
  simp only [Bool.and_eq_true, Bool.not_eq_true', decide_eq_false_iff_not, decide_eq_true_eq] at h
  intro q
  rcases q with q | q
  · exact h.1 q
  · exact absurd h.2 (Nat.not_lt.mpr q)
theorem cb_01_e {x y : Int32} (e : x = y) (h : cb_01 x) : cb_01 y := e ▸ h
def cb_on {β : Type} (o : Option Nat) (A : Option β) (B : Nat → Option β) : Option β := match o with
  | none => A
  | some j => B j
theorem cb_on_n {β : Type} {A : Option β} {B : Nat → Option β} {r : β} (h : cb_on none A B = some r) : A = some r := h
theorem cb_on_s {β : Type} {j : Nat} {A : Option β} {B : Nat → Option β} {r : β} (h : cb_on (some j) A B = some r) : B j = some r := h
theorem cb_nul {X : cb_X} {w : va_W} {pc : Nat} {lv : List (Nat × Value)} {st : List Value} {a : Nat → Nat} (kk : cb_V X w pc lv (.null :: st)) : cb_V X w pc lv (((some (cb_rv a none)).toList) ++ st) := kk
theorem cb_rfv {X : cb_X} {w : va_W} {pc : Nat} {lv : List (Nat × Value)} {st : List Value} {a : Nat → Nat} {j : Nat} (kk : cb_V X w pc lv (.ref (a j) :: st)) : cb_V X w pc lv (((some (cb_rv a (some j))).toList) ++ st) := kk
theorem cb_lko {x y : Int32} {ps : List (Int × Int)} {d o : Int} (e : x = y) (h : Op.lookupswitch.offset ps d y.toInt = o) : Op.lookupswitch.offset ps d x.toInt = o := by rw [e]; exact h
def cb_isBank (j : Nat) : Prop := j = 11 ∨ j = 13
def cb_isChannel (j : Nat) : Prop := j = 6 ∨ j = 7
def cb_isPort (j : Nat) : Prop := j = 8 ∨ j = 9
def cb_isDevice (j : Nat) : Prop := j = 6 ∨ j = 7 ∨ j = 8 ∨ j = 9
theorem bank_11 : cb_isBank 11 := Or.inl rfl
theorem bank_13 : cb_isBank 13 := Or.inr rfl
theorem channel_6 : cb_isChannel 6 := Or.inl rfl
theorem channel_7 : cb_isChannel 7 := Or.inr rfl
theorem port_8 : cb_isPort 8 := Or.inl rfl
theorem port_9 : cb_isPort 9 := Or.inr rfl
theorem device_6 : cb_isDevice 6 := Or.inl rfl
theorem device_7 : cb_isDevice 7 := Or.inr (Or.inl rfl)
theorem device_8 : cb_isDevice 8 := Or.inr (Or.inr (Or.inl rfl))
theorem device_9 : cb_isDevice 9 := Or.inr (Or.inr (Or.inr rfl))
theorem cb_Channel_Device {j : Nat} (h : cb_isChannel j) : cb_isDevice j := by
  rcases h with rfl | rfl
  · exact device_6
  · exact device_7
theorem cb_Port_Device {j : Nat} (h : cb_isPort j) : cb_isDevice j := by
  rcases h with rfl | rfl
  · exact device_8
  · exact device_9
theorem cb_dev {i : Int32} (h : vp_in i 4) : cb_isDevice (6 + i.toNatClampNeg) := by
  have h1 : i.toNatClampNeg < 4 := Nat.not_le.mp fun q => h (Or.inr q)
  unfold cb_isDevice
  omega
/-! words of the tables by their places -/
def cb_T : List Cond := lw_tbl.filter goodWord
def cb_isN : Cond → Bool
  | .fieldLinkNest .. => true
  | .methodLinkNest .. => true
  | .declares .. => true
  | _ => false
def cb_N : List Cond := tables_1.filter cb_isN
theorem cb_m1 {w : Cond} {i : Nat} (h : tables_1_1[i]? = some w) : w ∈ tables_1 := List.mem_append_left _ (List.mem_of_getElem? h)
theorem cb_t1 {w : Cond} (i : Nat) (h : tables_1_1[i]? = some w) (g : goodWord w = true) : w ∈ cb_T := List.mem_filter.mpr ⟨List.mem_append_right _ (cb_m1 h), g⟩
theorem cb_n1 {w : Cond} (i : Nat) (h : tables_1_1[i]? = some w) (g : cb_isN w = true) : w ∈ cb_N := List.mem_filter.mpr ⟨cb_m1 h, g⟩
theorem cb_m2 {w : Cond} {i : Nat} (h : tables_1_2[i]? = some w) : w ∈ tables_1 := List.mem_append_right _ (List.mem_append_left _ (List.mem_of_getElem? h))
theorem cb_t2 {w : Cond} (i : Nat) (h : tables_1_2[i]? = some w) (g : goodWord w = true) : w ∈ cb_T := List.mem_filter.mpr ⟨List.mem_append_right _ (cb_m2 h), g⟩
theorem cb_n2 {w : Cond} (i : Nat) (h : tables_1_2[i]? = some w) (g : cb_isN w = true) : w ∈ cb_N := List.mem_filter.mpr ⟨cb_m2 h, g⟩
theorem cb_m3 {w : Cond} {i : Nat} (h : tables_1_3[i]? = some w) : w ∈ tables_1 := List.mem_append_right _ (List.mem_append_right _ (List.mem_append_left _ (List.mem_of_getElem? h)))
theorem cb_t3 {w : Cond} (i : Nat) (h : tables_1_3[i]? = some w) (g : goodWord w = true) : w ∈ cb_T := List.mem_filter.mpr ⟨List.mem_append_right _ (cb_m3 h), g⟩
theorem cb_n3 {w : Cond} (i : Nat) (h : tables_1_3[i]? = some w) (g : cb_isN w = true) : w ∈ cb_N := List.mem_filter.mpr ⟨cb_m3 h, g⟩
theorem cb_m4 {w : Cond} {i : Nat} (h : tables_1_4[i]? = some w) : w ∈ tables_1 := List.mem_append_right _ (List.mem_append_right _ (List.mem_append_right _ (List.mem_append_left _ (List.mem_of_getElem? h))))
theorem cb_t4 {w : Cond} (i : Nat) (h : tables_1_4[i]? = some w) (g : goodWord w = true) : w ∈ cb_T := List.mem_filter.mpr ⟨List.mem_append_right _ (cb_m4 h), g⟩
theorem cb_n4 {w : Cond} (i : Nat) (h : tables_1_4[i]? = some w) (g : cb_isN w = true) : w ∈ cb_N := List.mem_filter.mpr ⟨cb_m4 h, g⟩
theorem cb_m5 {w : Cond} {i : Nat} (h : tables_1_5[i]? = some w) : w ∈ tables_1 := List.mem_append_right _ (List.mem_append_right _ (List.mem_append_right _ (List.mem_append_right _ (List.mem_of_getElem? h))))
theorem cb_t5 {w : Cond} (i : Nat) (h : tables_1_5[i]? = some w) (g : goodWord w = true) : w ∈ cb_T := List.mem_filter.mpr ⟨List.mem_append_right _ (cb_m5 h), g⟩
theorem cb_n5 {w : Cond} (i : Nat) (h : tables_1_5[i]? = some w) (g : cb_isN w = true) : w ∈ cb_N := List.mem_filter.mpr ⟨cb_m5 h, g⟩
theorem cb_tp1 {y : MethodName} {n : Nat} (i : Nat) (h : lw_privs_1[i]? = some (y, n)) : Cond.selects y.cls y y ∈ cb_T := List.mem_filter.mpr ⟨List.mem_append_left _ (List.mem_map.mpr ⟨(y, n), List.mem_append_left _ (List.mem_of_getElem? h), rfl⟩), rfl⟩
theorem cb_tp2 {y : MethodName} {n : Nat} (i : Nat) (h : lw_privs_2[i]? = some (y, n)) : Cond.selects y.cls y y ∈ cb_T := List.mem_filter.mpr ⟨List.mem_append_left _ (List.mem_map.mpr ⟨(y, n), List.mem_append_right _ (List.mem_append_left _ (List.mem_of_getElem? h)), rfl⟩), rfl⟩
theorem cb_tp3 {y : MethodName} {n : Nat} (i : Nat) (h : lw_privs_3[i]? = some (y, n)) : Cond.selects y.cls y y ∈ cb_T := List.mem_filter.mpr ⟨List.mem_append_left _ (List.mem_map.mpr ⟨(y, n), List.mem_append_right _ (List.mem_append_right _ (List.mem_append_left _ (List.mem_of_getElem? h))), rfl⟩), rfl⟩
theorem cb_tp4 {y : MethodName} {n : Nat} (i : Nat) (h : lw_privs_4[i]? = some (y, n)) : Cond.selects y.cls y y ∈ cb_T := List.mem_filter.mpr ⟨List.mem_append_left _ (List.mem_map.mpr ⟨(y, n), List.mem_append_right _ (List.mem_append_right _ (List.mem_append_right _ (List.mem_append_left _ (List.mem_of_getElem? h)))), rfl⟩), rfl⟩
theorem cb_tp5 {y : MethodName} {n : Nat} (i : Nat) (h : lw_privs_5[i]? = some (y, n)) : Cond.selects y.cls y y ∈ cb_T := List.mem_filter.mpr ⟨List.mem_append_left _ (List.mem_map.mpr ⟨(y, n), List.mem_append_right _ (List.mem_append_right _ (List.mem_append_right _ (List.mem_append_right _ (List.mem_append_left _ (List.mem_of_getElem? h))))), rfl⟩), rfl⟩
theorem cb_tp6 {y : MethodName} {n : Nat} (i : Nat) (h : lw_privs_6[i]? = some (y, n)) : Cond.selects y.cls y y ∈ cb_T := List.mem_filter.mpr ⟨List.mem_append_left _ (List.mem_map.mpr ⟨(y, n), List.mem_append_right _ (List.mem_append_right _ (List.mem_append_right _ (List.mem_append_right _ (List.mem_append_right _ (List.mem_of_getElem? h))))), rfl⟩), rfl⟩
theorem cb_T_good : ∀ w ∈ cb_T, ((w.onTables && w.keeps) = true ∨ ∃ ty, w = .arrayClass ty) := fun w h => good_of_word (List.mem_filter.mp h).2
theorem cb_N_ok : ∀ x ∈ cb_N, x.onTables = true ∧ ∀ s U : State, s.WarmedH U.vm → va_Nw x s → va_Nw x U := by
  intro x hx
  have h := (List.mem_filter.mp hx).2
  cases x <;> first | (exact absurd (show false = true from h) (by decide)) | (exact ⟨rfl, fun s U hW hz => va_Nw.warmF hW hz⟩) | (exact ⟨rfl, fun s U hW hz => va_Nw.warmM hW hz⟩) | (exact ⟨rfl, fun s U hW hz => va_Nw.warmD hW hz⟩)
