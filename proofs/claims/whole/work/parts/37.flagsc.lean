section P7
theorem dm4_8 (T : Nat) : (T + 8589934336) / 2 ^ 4 % 2 = T / 2 ^ 4 % 2 := by omega
theorem dm7_8 (T : Nat) : (T + 8589934336) / 2 ^ 7 % 2 = T / 2 ^ 7 % 2 := by omega
theorem dm8_8 {T : Nat} (h : T / 2 ^ 8 ≤ 1) : (T + 8589934336) / 2 ^ 8 % 2 = 1 - T / 2 ^ 8 := by omega
theorem dmS_8 (T : Nat) : (T + 8589934336) % 2 ^ 8 = T % 2 ^ 8 := by omega
theorem dm4_16 (T : Nat) : (T + 8589869056) / 2 ^ 12 % 2 = T / 2 ^ 12 % 2 := by omega
theorem dm7_16 (T : Nat) : (T + 8589869056) / 2 ^ 15 % 2 = T / 2 ^ 15 % 2 := by omega
theorem dm8_16 {T : Nat} (h : T / 2 ^ 16 ≤ 1) : (T + 8589869056) / 2 ^ 16 % 2 = 1 - T / 2 ^ 16 := by omega
theorem dmS_16 (T : Nat) : (T + 8589869056) % 2 ^ 16 = T % 2 ^ 16 := by omega
theorem m1_le (x : Nat) : 1 - x ≤ 1 := Nat.sub_le 1 x
theorem m2_le (x : Nat) : x % 2 ≤ 1 := Nat.le_of_lt_succ (Nat.mod_lt _ (by omega))
theorem t8_le {x : Nat} (h : x < 256) : x / 128 ≤ 1 := by omega
theorem t16_le {x : Nat} (h : x < 65536) : x / 32768 ≤ 1 := by omega
theorem w_le {x : Nat} (h : x < 65536) : x ≤ 4294967296 := by omega
theorem w1_le {x : Nat} (h : x ≤ 1) : x ≤ 4294967296 := by omega
theorem q_lt {x k m : Nat} (h : x ≤ 1) (hm : k * m ≤ 2147483647) (e : k = 1 ∨ k = 1) : x * m < 2 ^ 31 := by
  have : x * m ≤ 1 * m := Nat.mul_le_mul_right _ h
  rcases e with rfl | rfl <;> omega
theorem x_sh {x : Nat} (h : x ≤ 1) {m k d : Nat} (hk : k < 32) (hm : m < 2 ^ 31) (e : m = d * 2 ^ k) : nI (x * m) >>> (nI k &&& 31) = nI (x * d) := by
  have h1 : x * m ≤ 1 * m := Nat.mul_le_mul_right _ h
  rw [shr_k (by omega) hk, e, ← Nat.mul_assoc, Nat.mul_div_cancel _ (Nat.two_pow_pos k)]
theorem eD_8 {a b w : Nat} (hb : b < 256) (hw : w ≤ 1) : a + (4294967296 - b) + (4294967296 - w) = (a + (255 - b) + (1 - w)) + 8589934336 := by omega
theorem eD_16 {a b w : Nat} (hb : b < 65536) (hw : w ≤ 1) : a + (4294967296 - b) + (4294967296 - w) = (a + (65535 - b) + (1 - w)) + 8589869056 := by omega
theorem lt_2 (x : Nat) : x % 2 < 2 := Nat.mod_lt _ (by omega)
theorem le_2 {x : Nat} (h : x ≤ 1) : x < 2 := Nat.lt_succ_of_le h
theorem s8_lt {R : Nat} (h : R < 256) : R < 2 ^ 24 := by omega
theorem s16_lt {R : Nat} (h : R < 65536) : R < 2 ^ 24 := by omega
theorem vb_n {n b m : Nat} (hb : b < 2 ^ n) (hm : m < n) : b / 2 ^ m % 2 = 1 - (2 ^ n - (b + 1)) / 2 ^ m % 2 := by
  have h1 := n_bit (2 ^ n - (b + 1)) m
  rw [Nat.testBit_two_pow_sub_succ hb, n_bit b m, decide_eq_true hm, Bool.true_and] at h1
  rcases bit01 (b / 2 ^ m) with p | p <;> rcases bit01 ((2 ^ n - (b + 1)) / 2 ^ m) with q | q <;> rw [p, q] at h1 <;> rw [p, q] <;> first | rfl | exact absurd h1 (by decide)
theorem cm_8 (b : Nat) : 255 - b = 2 ^ 8 - (b + 1) := by omega
theorem cm_16 (b : Nat) : 65535 - b = 2 ^ 16 - (b + 1) := by omega
end P7
