/-! the reference's sum, bit by bit, in closed form -/
section P6
variable {g : Int32 × Int32 × Int32} {σ τ : cb_S}
theorem sh_k : ∀ k, k < 32 → ((nI k &&& 31).toBitVec.smod 32).toNat = k := by decide +kernel
theorem shr_k {a k : Nat} (ha : a < 2 ^ 31) (hk : k < 32) : nI a >>> (nI k &&& 31) = nI (a / 2 ^ k) := pk_shrN ha _ k (sh_k k hk)
theorem shl_k {a k : Nat} (hk : k < 32) (h : a * 2 ^ k < 2 ^ 32) : nI a <<< (nI k &&& 31) = nI (a * 2 ^ k) := pk_shlN _ k (sh_k k hk) h
theorem and1 {a : Nat} (ha : a < 2 ^ 32) : nI a &&& 1 = nI (a % 2) := pk_andN ha 1 (m := 1) (by decide +kernel)
theorem nI_lit0 : (0 : Int32) = nI 0 := rfl
theorem nI_lit1 : (1 : Int32) = nI 1 := rfl
/-- the sum of the low k bits -/
def aT (a b c k : Nat) : Nat := a % 2 ^ k + b % 2 ^ k + c
def aC (a b c k : Nat) : Nat := aT a b c k / 2 ^ k
def aS (a b c k : Nat) : Nat := aT a b c k % 2 ^ k
theorem aT_succ (a b c k : Nat) : aT a b c (k + 1) = aS a b c k + (aC a b c k + a / 2 ^ k % 2 + b / 2 ^ k % 2) * 2 ^ k := by
  have ha : a % 2 ^ (k + 1) = a % 2 ^ k + 2 ^ k * (a / 2 ^ k % 2) := Nat.mod_pow_succ
  have hb : b % 2 ^ (k + 1) = b % 2 ^ k + 2 ^ k * (b / 2 ^ k % 2) := Nat.mod_pow_succ
  have hT : aT a b c k = aS a b c k + aC a b c k * 2 ^ k := by
    unfold aS aC
    rw [Nat.mul_comm]
    exact (Nat.mod_add_div _ _).symm
  unfold aT at hT ⊢
  rw [ha, hb, Nat.add_mul, Nat.add_mul, Nat.mul_comm (2 ^ k) (a / 2 ^ k % 2), Nat.mul_comm (2 ^ k) (b / 2 ^ k % 2)]
  generalize a / 2 ^ k % 2 * 2 ^ k = x at *
  generalize b / 2 ^ k % 2 * 2 ^ k = y at *
  generalize aC a b c k * 2 ^ k = z at *
  omega
theorem aC_le {a b c : Nat} (hc : c ≤ 1) (k : Nat) : aC a b c k ≤ 1 := by
  unfold aC aT
  have h1 := Nat.mod_lt a (Nat.two_pow_pos k)
  have h2 := Nat.mod_lt b (Nat.two_pow_pos k)
  have h3 := Nat.two_pow_pos k
  have h4 : (a % 2 ^ k + b % 2 ^ k + c) / 2 ^ k < 2 := by
    rw [Nat.div_lt_iff_lt_mul h3]; omega
  omega
theorem aS_lt (a b c k : Nat) : aS a b c k < 2 ^ k := Nat.mod_lt _ (Nat.two_pow_pos k)
theorem aS_succ {a b c : Nat} (k : Nat) : aS a b c (k + 1) = aS a b c k + (aC a b c k + a / 2 ^ k % 2 + b / 2 ^ k % 2) % 2 * 2 ^ k := by
  have hs := aS_lt a b c k
  rw [show aS a b c (k + 1) = aT a b c (k + 1) % 2 ^ (k + 1) from rfl, aT_succ]
  generalize aC a b c k + a / 2 ^ k % 2 + b / 2 ^ k % 2 = o
  have h1 : o * 2 ^ k = o % 2 * 2 ^ k + o / 2 * 2 ^ (k + 1) := by
    rw [Nat.pow_succ]
    have := Nat.mod_add_div o 2
    calc o * 2 ^ k = (o % 2 + 2 * (o / 2)) * 2 ^ k := by rw [this]
      _ = o % 2 * 2 ^ k + o / 2 * (2 ^ k * 2) := by rw [Nat.add_mul]; congr 1; rw [Nat.mul_comm 2, Nat.mul_assoc, Nat.mul_comm 2]
  rw [h1, ← Nat.add_assoc, Nat.add_mul_mod_self_right]
  apply Nat.mod_eq_of_lt
  rw [Nat.pow_succ]
  have h2 : o % 2 < 2 := Nat.mod_lt _ (by omega)
  have h3 : o % 2 * 2 ^ k ≤ 1 * 2 ^ k := Nat.mul_le_mul_right _ (by omega)
  omega
theorem aC_succ {a b c : Nat} (k : Nat) : aC a b c (k + 1) = (aC a b c k + a / 2 ^ k % 2 + b / 2 ^ k % 2) / 2 := by
  have hs := aS_lt a b c k
  rw [show aC a b c (k + 1) = aT a b c (k + 1) / 2 ^ (k + 1) from rfl, aT_succ]
  generalize aC a b c k + a / 2 ^ k % 2 + b / 2 ^ k % 2 = o
  rw [Nat.pow_succ, ← Nat.div_div_eq_div_mul, Nat.add_mul_div_right _ _ (Nat.two_pow_pos k), Nat.div_eq_of_lt hs, Nat.zero_add]
theorem or_add {s o k : Nat} (hs : s < 2 ^ k) : s ||| o * 2 ^ k = s + o * 2 ^ k := by
  have h := Nat.shiftLeft_add_eq_or_of_lt hs o
  rw [Nat.shiftLeft_eq] at h
  rw [Nat.or_comm, ← h, Nat.add_comm]
/-- one bit -/
theorem add_bit {a b c k : Nat} (ha : a < 65536) (hb : b < 65536) (hc : c ≤ 1) (hk : k < 16) :
    (((nI a >>> (nI k &&& 31)) &&& (1 : Int32)) + ((nI b >>> (nI k &&& 31)) &&& (1 : Int32))) + (if nI (aC a b c k) = 0 then (0 : Int32) else (1 : Int32)) = nI (aC a b c k + a / 2 ^ k % 2 + b / 2 ^ k % 2) := by
  have hC := aC_le (a := a) (b := b) hc k
  have h1 : a / 2 ^ k ≤ a := Nat.div_le_self _ _
  have h2 : b / 2 ^ k ≤ b := Nat.div_le_self _ _
  rw [shr_k (by omega) (by omega), shr_k (by omega) (by omega), and1 (by omega), and1 (by omega)]
  have e : (if nI (aC a b c k) = 0 then (0 : Int32) else (1 : Int32)) = nI (aC a b c k) := by
    rcases (show aC a b c k = 0 ∨ aC a b c k = 1 by omega) with h | h
    · rw [h]; rfl
    · rw [h]; rfl
  rw [e, nI_add, nI_add]
  congr 1
  omega
theorem add_sum {a b c k : Nat} (hc : c ≤ 1) (hk : k < 16) : nI (aS a b c k) ||| ((nI (aC a b c k + a / 2 ^ k % 2 + b / 2 ^ k % 2) &&& (1 : Int32)) <<< (nI k &&& 31)) = nI (aS a b c (k + 1)) := by
  have hC := aC_le (a := a) (b := b) hc k
  have h2 : 2 ^ k ≤ 2 ^ 15 := Nat.pow_le_pow_right (by omega) (by omega)
  rw [and1 (by omega), shl_k (by omega) (by
    have : (aC a b c k + a / 2 ^ k % 2 + b / 2 ^ k % 2) % 2 < 2 := Nat.mod_lt _ (by omega)
    calc _ ≤ 1 * 2 ^ k := Nat.mul_le_mul_right _ (by omega)
      _ ≤ 2 ^ 15 := by omega
      _ < 2 ^ 32 := by decide), cb_or_n, or_add (aS_lt a b c k), aS_succ]
theorem add_car {a b c k : Nat} (hc : c ≤ 1) : (if nI (aC a b c k + a / 2 ^ k % 2 + b / 2 ^ k % 2) ≤ (1 : Int32) then (0 : Int32) else (1 : Int32)) = nI (aC a b c (k + 1)) := by
  have hC := aC_le (a := a) (b := b) hc k
  rw [aC_succ]
  rcases (show aC a b c k + a / 2 ^ k % 2 + b / 2 ^ k % 2 = 0 ∨ aC a b c k + a / 2 ^ k % 2 + b / 2 ^ k % 2 = 1 ∨ aC a b c k + a / 2 ^ k % 2 + b / 2 ^ k % 2 = 2 ∨ aC a b c k + a / 2 ^ k % 2 + b / 2 ^ k % 2 = 3 by omega) with h | h | h | h <;> rw [h] <;> decide
theorem c01 {n : Nat} (h : n ≤ 1) : nI n = 0 ∨ nI n = 1 := by
  rcases (show n = 0 ∨ n = 1 by omega) with rfl | rfl
  · exact Or.inl rfl
  · exact Or.inr rfl
/-- a step of the loop -/
theorem add_step {N a b c k n : Nat} {v3 : Int32} {K : cb_S → Int32 → Int32 → Int32 → Option (Int32 × cb_S)} (ha : a < 65536) (hb : b < 65536) (hc : c ≤ 1) (hn : n ≤ 16) (hn5 : 5 ≤ n) (hk : k < n) :
    m_add_B9 N (nI a) (nI b) v3 (nI n) K τ (nI (aS a b c k)) (nI (aC a b c k)) (nI k) =
      K (if k = n - 5 then cb_up (if k = n - 1 then cb_up τ 0 10 (nI (aC a b c k)) else τ) 0 9 (nI (aC a b c (k + 1))) else (if k = n - 1 then cb_up τ 0 10 (nI (aC a b c k)) else τ)) (nI (aS a b c (k + 1))) (nI (aC a b c (k + 1))) (nI (k + 1)) := by
  have e1 : ¬ nI n ≤ nI k := nI_ge hk (by omega)
  have e2 : nI n - (1 : Int32) = nI (n - 1) := by rw [nI_lit1]; exact pk_sub (by omega)
  have e3 : nI n - (5 : Int32) = nI (n - 5) := by rw [show (5 : Int32) = nI 5 from rfl]; exact pk_sub (by omega)
  have tail : ∀ τ1 : cb_S, m_add_L57 N (nI a) (nI b) v3 (nI n) K τ1 (nI (aS a b c k)) (nI k) (nI (aC a b c k + a / 2 ^ k % 2 + b / 2 ^ k % 2)) = K (if k = n - 5 then cb_up τ1 0 9 (nI (aC a b c (k + 1))) else τ1) (nI (aS a b c (k + 1))) (nI (aC a b c (k + 1))) (nI (k + 1)) := by
    intro τ1
    unfold m_add_L57
    rw [add_sum hc (by omega), cb_let_e, add_car hc, cb_let_e, e3]
    by_cases h5 : k = n - 5
    · rw [if_pos (by rw [h5]), if_pos h5]
      unfold m_add_L97
      rw [cb_let_e, cb_let_e, nI_1]
    · rw [if_neg (fun q => h5 ((nI_eq (by omega) (by omega)).mp q)), if_neg h5]
      unfold m_add_L97
      rw [cb_let_e, nI_1]
  unfold m_add_B9
  rw [if_neg e1, add_bit ha hb hc (by omega), cb_let_e, e2]
  by_cases h1 : k = n - 1
  · rw [if_pos (by rw [h1]), if_pos h1, cb_gd_e (c01 (aC_le hc k)), cb_let_e]
    exact tail _
  · rw [if_neg (fun q => h1 ((nI_eq (by omega) (by omega)).mp q)), if_neg h1]
    exact tail _
/-- steps that write nothing -/
theorem add_run {N a b c n : Nat} {v3 : Int32} (ha : a < 65536) (hb : b < 65536) (hc : c ≤ 1) (hn : n ≤ 16) (hn5 : 5 ≤ n) : ∀ (d k f : Nat), k + d ≤ n → (∀ i, k ≤ i → i < k + d → i ≠ n - 1 ∧ i ≠ n - 5) →
    m_add_H9 N (nI a) (nI b) v3 (nI n) (f + d) τ (nI (aS a b c k)) (nI (aC a b c k)) (nI k) = m_add_H9 N (nI a) (nI b) v3 (nI n) f τ (nI (aS a b c (k + d))) (nI (aC a b c (k + d))) (nI (k + d)) := by
  intro d
  induction d with
  | zero => intro k f _ _; rfl
  | succ d ih =>
    intro k f h1 h2
    rw [show f + (d + 1) = (f + d) + 1 from rfl]
    show m_add_B9 N (nI a) (nI b) v3 (nI n) (m_add_H9 N (nI a) (nI b) v3 (nI n) (f + d)) τ _ _ _ = _
    have h3 := h2 k (Nat.le_refl k) (by omega)
    rw [add_step ha hb hc hn hn5 (by omega), if_neg h3.2, if_neg h3.1, ih (k + 1) f (by omega) (fun i q1 q2 => h2 i (by omega) (by omega)), show k + 1 + d = k + (d + 1) by omega]
theorem m_add_c {N a b c n : Nat} (hN : n < N) (ha : a < 65536) (hb : b < 65536) (hc : c ≤ 1) (hn : n = 8 ∨ n = 16) :
    m_add N τ (nI a) (nI b) (nI c) (nI n) = some (nI (aS a b c n), cb_up (cb_up (cb_up τ 0 9 (nI (aC a b c (n - 4)))) 0 10 (nI (aC a b c (n - 1)))) 0 11 (nI (aC a b c n))) := by
  have hn5 : 5 ≤ n := by omega
  have hn16 : n ≤ 16 := by omega
  unfold m_add
  have e0 : nI (aS a b c 0) = 0 := by unfold aS; rw [Nat.pow_zero, Nat.mod_one]; rfl
  have e1 : aC a b c 0 = c := by unfold aC aT; simp [Nat.mod_one]
  obtain ⟨f, rfl⟩ : ∃ f, N = ((((f + 1) + 1) + 3) + 1) + (n - 5) := ⟨N - (n + 1), by omega⟩
  have s1 := add_run (τ := τ) (N := ((((f + 1) + 1) + 3) + 1) + (n - 5)) (v3 := nI c) ha hb hc hn16 hn5 (n - 5) 0 ((((f + 1) + 1) + 3) + 1) (by omega) (fun i _ _ => by omega)
  rw [e0, e1, Nat.zero_add] at s1
  rw [show m_add_H9 (f + 1 + 1 + 3 + 1 + (n - 5)) (nI a) (nI b) (nI c) (nI n) (f + 1 + 1 + 3 + 1 + (n - 5)) τ 0 (nI c) 0 = _ from s1]
  show m_add_B9 _ (nI a) (nI b) (nI c) (nI n) (m_add_H9 _ (nI a) (nI b) (nI c) (nI n) (f + 1 + 1 + 3)) τ _ _ _ = _
  rw [add_step ha hb hc hn16 hn5 (by omega), if_pos rfl, if_neg (by omega), show n - 5 + 1 = n - 4 by omega]
  rw [add_run ha hb hc hn16 hn5 3 (n - 4) (f + 1 + 1) (by omega) (fun i _ _ => by omega), show n - 4 + 3 = n - 1 by omega]
  show m_add_B9 _ (nI a) (nI b) (nI c) (nI n) (m_add_H9 _ (nI a) (nI b) (nI c) (nI n) (f + 1)) _ _ _ _ = _
  rw [add_step ha hb hc hn16 hn5 (by omega), if_neg (by omega), if_pos rfl, show n - 1 + 1 = n by omega]
  show m_add_B9 _ (nI a) (nI b) (nI c) (nI n) (m_add_H9 _ (nI a) (nI b) (nI c) (nI n) f) _ _ _ _ = _
  unfold m_add_B9
  rw [if_pos (nI_le (Nat.le_refl n) (by omega)), cb_gd_e (c01 (aC_le hc n)), cb_let_e]
end P6
