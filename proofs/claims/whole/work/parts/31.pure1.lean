/-! The two systems side by side: what a state of the one has to do with a state of the other, and rules for pairs of decompiled pieces. -/
def cb_by (x : Int32) : Prop := ∃ n : Nat, n < 256 ∧ x = nI n
def cb_wo (x : Int32) : Prop := ∃ n : Nat, n < 65536 ∧ x = nI n
/-- the channel k: cell 6 + k against the reference's arrays -/
def cb_Rc (σ τ : cb_S) (j k : Nat) : Prop := σ j 0 = τ 5 k ∧ σ j 1 = τ 3 k ∧ σ j 2 = τ 4 k ∧ σ j 4 = τ 7 k ∧ σ j 5 = τ 6 k ∧ σ j 6 = τ 8 k ∧ σ j 7 = τ 9 k ∧ σ j 8 = τ 10 k ∧ σ j 10 = τ 12 k ∧ ((σ j 9 = 0 ∧ τ 11 k = 16 ∧ ∃ n : Nat, n < 16 ∧ σ j 6 = nI n) ∨ (σ j 9 = 1 ∧ τ 11 k = 256 ∧ ∃ n : Nat, n < 256 ∧ σ j 6 = nI n)) ∧ cb_01 (σ j 0) ∧ cb_01 (σ j 1) ∧ cb_01 (σ j 2) ∧ cb_01 (σ j 7) ∧ cb_01 (σ j 8) ∧ cb_01 (σ j 10)
/-- the port p -/
def cb_Rq (σ τ : cb_S) (j p d : Nat) : Prop := σ j 0 = τ 5 d ∧ σ j 1 = τ 3 d ∧ σ j 2 = τ 4 d ∧ σ j 3 = τ 14 p ∧ σ j 4 = τ 13 p ∧ σ j 5 = τ 20 p ∧ σ j 6 = τ 21 p ∧ σ j 7 = τ 22 p ∧ σ j 8 = τ 23 p ∧ σ j 9 = τ 16 p ∧ σ j 10 = τ 17 p ∧ σ j 11 = τ 18 p ∧ σ j 12 = τ 19 p ∧ σ j 15 = τ 24 p ∧
  ((σ j 13 = 0 ∧ σ j 14 = 0 ∧ τ 15 p = 0) ∨ (σ j 13 = 1 ∧ σ j 14 = 0 ∧ τ 15 p = 1) ∨ (σ j 13 = 0 ∧ σ j 14 = 1 ∧ τ 15 p = 2)) ∧
  cb_01 (σ j 0) ∧ cb_01 (σ j 1) ∧ cb_01 (σ j 2) ∧ cb_by (σ j 3) ∧ cb_by (σ j 4) ∧ cb_01 (σ j 5) ∧ cb_by (σ j 6) ∧ cb_by (σ j 7) ∧ cb_by (σ j 8) ∧ cb_by (σ j 9) ∧ cb_by (σ j 10) ∧ cb_01 (σ j 11) ∧ cb_01 (σ j 12) ∧ cb_01 (σ j 15)
def cb_Rd (σ τ : cb_S) : Prop := cb_Rc σ τ 6 0 ∧ cb_Rc σ τ 7 1 ∧ cb_Rq σ τ 8 0 2 ∧ cb_Rq σ τ 9 1 3 ∧ σ 6 3 = τ 0 15 ∧ σ 7 3 = τ 0 15 + 2 ∧ (∃ n : Nat, n < 249 ∧ τ 0 15 = nI n)
def cb_Rm (σ τ : cb_S) : Prop := σ 4 = τ 1 ∧ ∀ k, cb_by (σ 4 k)
def cb_Rg (σ τ : cb_S) : Prop := (∀ k, k < 8 → σ 12 k = τ 2 k ∧ cb_by (σ 12 k)) ∧ (∀ k, k < 8 → σ 14 k = τ 2 (8 + k) ∧ cb_by (σ 14 k)) ∧ σ 12 6 &&& 215 = σ 12 6 ∧ σ 14 6 &&& 215 = σ 14 6
def cb_Rp (σ τ : cb_S) : Prop := σ 10 2 = τ 0 2 ∧ σ 10 3 = τ 0 3 ∧ σ 10 4 = τ 0 4 ∧ cb_wo (σ 10 2) ∧ cb_wo (σ 10 3) ∧ cb_by (σ 10 4)
def cb_Rx (g : Int32 × Int32 × Int32) (σ τ : cb_S) : Prop := σ 3 5 = τ 0 5 ∧ σ 3 6 = τ 0 6 ∧ ((σ 3 8 = 1 ∧ τ 0 7 = 2) ∨ (σ 3 8 = 0 ∧ σ 3 7 = 1 ∧ τ 0 7 = 1) ∨ (σ 3 8 = 0 ∧ σ 3 7 = 0 ∧ τ 0 7 = 0)) ∧ σ 3 10 = τ 25 0 ∧ σ 3 11 = τ 25 1 ∧ σ 3 12 = τ 25 2 ∧ cb_01 (σ 3 5) ∧ (σ 3 6 = 1 ∨ σ 3 6 = 2) ∧ σ 3 9 = g.1 ∧ τ 0 8 = g.2.1 ∧ σ 3 8 = g.2.2
def cb_R (g : Int32 × Int32 × Int32) (σ τ : cb_S) : Prop := cb_Rm σ τ ∧ cb_Rg σ τ ∧ cb_Rp σ τ ∧ cb_Rx g σ τ ∧ cb_Rd σ τ
/-- two pieces that answer alike and leave states that belong together -/
def cb_Sm (x y : Option (Int32 × cb_S)) (P : Int32 → cb_S → cb_S → Prop) : Prop := ∃ r σ τ, x = some (r, σ) ∧ y = some (r, τ) ∧ P r σ τ
def cb_Sv (x y : Option cb_S) (P : cb_S → cb_S → Prop) : Prop := ∃ σ τ, x = some σ ∧ y = some τ ∧ P σ τ
def cb_Se (x y : Option Int32) (P : Int32 → Prop) : Prop := ∃ r, x = some r ∧ y = some r ∧ P r
theorem cb_Sm_mono {x y : Option (Int32 × cb_S)} {P P' : Int32 → cb_S → cb_S → Prop} (h : cb_Sm x y P) (hp : ∀ r σ τ, P r σ τ → P' r σ τ) : cb_Sm x y P' := by
  obtain ⟨r, σ, τ, h1, h2, h3⟩ := h
  exact ⟨r, σ, τ, h1, h2, hp r σ τ h3⟩
theorem cb_Sm_b2 {f g : Int32 → cb_S → Option (Int32 × cb_S)} {x y : Option (Int32 × cb_S)} {P Q : Int32 → cb_S → cb_S → Prop} (h : cb_Sm x y P) (k : ∀ r σ τ, P r σ τ → cb_Sm (f r σ) (g r τ) Q) : cb_Sm (cb_b2 x f) (cb_b2 y g) Q := by
  obtain ⟨r, σ, τ, h1, h2, h3⟩ := h
  rw [h1, h2]; exact k r σ τ h3
theorem cb_Sm_bv {f g : cb_S → Option (Int32 × cb_S)} {x y : Option cb_S} {P : cb_S → cb_S → Prop} {Q : Int32 → cb_S → cb_S → Prop} (h : cb_Sv x y P) (k : ∀ σ τ, P σ τ → cb_Sm (f σ) (g τ) Q) : cb_Sm (cb_bo x f) (cb_bo y g) Q := by
  obtain ⟨σ, τ, h1, h2, h3⟩ := h
  rw [h1, h2]; exact k σ τ h3
theorem cb_Sm_be {f g : Int32 → Option (Int32 × cb_S)} {x y : Option Int32} {P : Int32 → Prop} {Q : Int32 → cb_S → cb_S → Prop} (h : cb_Se x y P) (k : ∀ r, P r → cb_Sm (f r) (g r) Q) : cb_Sm (cb_bo x f) (cb_bo y g) Q := by
  obtain ⟨r, h1, h2, h3⟩ := h
  rw [h1, h2]; exact k r h3
theorem cb_Sv_b2 {f g : Int32 → cb_S → Option cb_S} {x y : Option (Int32 × cb_S)} {P : Int32 → cb_S → cb_S → Prop} {Q : cb_S → cb_S → Prop} (h : cb_Sm x y P) (k : ∀ r σ τ, P r σ τ → cb_Sv (f r σ) (g r τ) Q) : cb_Sv (cb_b2 x f) (cb_b2 y g) Q := by
  obtain ⟨r, σ, τ, h1, h2, h3⟩ := h
  rw [h1, h2]; exact k r σ τ h3
theorem cb_Sv_bv {f g : cb_S → Option cb_S} {x y : Option cb_S} {P Q : cb_S → cb_S → Prop} (h : cb_Sv x y P) (k : ∀ σ τ, P σ τ → cb_Sv (f σ) (g τ) Q) : cb_Sv (cb_bo x f) (cb_bo y g) Q := by
  obtain ⟨σ, τ, h1, h2, h3⟩ := h
  rw [h1, h2]; exact k σ τ h3
theorem cb_Sv_be {f g : Int32 → Option cb_S} {x y : Option Int32} {P : Int32 → Prop} {Q : cb_S → cb_S → Prop} (h : cb_Se x y P) (k : ∀ r, P r → cb_Sv (f r) (g r) Q) : cb_Sv (cb_bo x f) (cb_bo y g) Q := by
  obtain ⟨r, h1, h2, h3⟩ := h
  rw [h1, h2]; exact k r h3
theorem cb_Se_be {f g : Int32 → Option Int32} {x y : Option Int32} {P Q : Int32 → Prop} (h : cb_Se x y P) (k : ∀ r, P r → cb_Se (f r) (g r) Q) : cb_Se (cb_bo x f) (cb_bo y g) Q := by
  obtain ⟨r, h1, h2, h3⟩ := h
  rw [h1, h2]; exact k r h3
/-- one side alone -/
theorem cb_bo_e {α β : Type} {x : Option α} {f : α → Option β} {a : α} (e : x = some a) : cb_bo x f = f a := by rw [e]; rfl
theorem cb_b2_e {α γ β : Type} {x : Option (α × γ)} {f : α → γ → Option β} {a : α} {c : γ} (e : x = some (a, c)) : cb_b2 x f = f a c := by rw [e]; rfl
theorem cb_gd_e {β : Type} {c : Prop} [Decidable c] {x : Option β} (h : c) : cb_gd c x = x := if_pos h
theorem cb_let_e {α β : Type} {x : α} {f : α → β} : cb_let x f = f x := rfl
theorem cb_up_eq (σ : cb_S) (j k : Nat) (v : Int32) : cb_up σ j k v j = upd (σ j) k v := by simp [cb_up]
theorem cb_up_ne (σ : cb_S) {i j : Nat} (k : Nat) (v : Int32) (h : i ≠ j) : cb_up σ j k v i = σ i := by simp [cb_up, h]
/-- numbers -/
theorem cb_in_n {n N : Nat} (h : n < N) (hN : N < 2 ^ 31) : cb_in (nI n) N = true := by
  have h1 : ¬ nI n < 0 := nI_pos (by omega)
  have h2 : (nI n).toNatClampNeg = n := nI_clamp (by omega)
  simp [cb_in, h1, h2, h]
theorem cb_and_n (a b : Nat) : nI a &&& nI b = nI (a &&& b) := by
  apply Int32.toBitVec_inj.mp
  simp [nI, Int32.toBitVec_and, Int32.toBitVec_ofNat', BitVec.ofNat_and]
theorem cb_or_n (a b : Nat) : nI a ||| nI b = nI (a ||| b) := by
  apply Int32.toBitVec_inj.mp
  simp [nI, Int32.toBitVec_or, Int32.toBitVec_ofNat', BitVec.ofNat_or]
theorem cb_xor_n (a b : Nat) : nI a ^^^ nI b = nI (a ^^^ b) := by
  apply Int32.toBitVec_inj.mp
  simp [nI, Int32.toBitVec_xor, Int32.toBitVec_ofNat', BitVec.ofNat_xor]
theorem cb_shl8 {n : Nat} (h : n < 2 ^ 24) : nI n <<< ((8 : Int32) &&& 31) = nI (n * 256) := pk_shlN _ 8 (by decide +kernel) (by omega)
theorem cb_shr8 {n : Nat} (h : n < 2 ^ 31) : nI n >>> ((8 : Int32) &&& 31) = nI (n / 256) := pk_shrN h _ 8 (by decide +kernel)
theorem cb_word {a b : Nat} (ha : a < 256) (hb : b < 256) : nI a ||| (nI b <<< ((8 : Int32) &&& 31)) = nI (a + 256 * b) := by
  rw [cb_shl8 (by omega), cb_or_n]
  congr 1
  have h := Nat.shiftLeft_add_eq_or_of_lt (i := 8) (b := a) (by omega) b
  rw [Nat.shiftLeft_eq] at h
  rw [Nat.or_comm, ← show b * 2 ^ 8 = b * 256 from rfl, ← h]
  omega
theorem cb_word' {a b : Nat} (ha : a < 256) (hb : b < 256) : (nI b <<< ((8 : Int32) &&& 31)) ||| nI a = nI (a + 256 * b) := by
  rw [← cb_word ha hb, Int32.or_comm]
theorem cb_255 (x : Int32) : cb_by (x &&& 255) := by
  obtain ⟨j, h1, h2⟩ := pk_andE x 8 (m := 255) (by decide +kernel)
  exact ⟨j, h1, h2⟩
theorem cb_65535 (x : Int32) : cb_wo (x &&& 65535) := by
  obtain ⟨j, h1, h2⟩ := pk_andE x 16 (m := 65535) (by decide +kernel)
  exact ⟨j, h1, h2⟩
theorem cb_by_wo {x : Int32} (h : cb_by x) : cb_wo x := by
  obtain ⟨n, h1, h2⟩ := h
  exact ⟨n, by omega, h2⟩
