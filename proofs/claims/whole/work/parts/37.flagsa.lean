/-! the class's sums and differences with their flags, in closed form -/
section P7
/-- by bits (after the kit's text to paste) -/
def bt (x : Int32) (i : Nat) : Bool := x.toBitVec.getLsbD i
theorem b_ext {x y : Int32} (h : ∀ i, i < 32 → bt x i = bt y i) : x = y := Int32.toBitVec_inj.mp (BitVec.eq_of_getLsbD_eq (fun i hi => h i hi))
theorem b_and (x y : Int32) (i : Nat) : bt (x &&& y) i = (bt x i && bt y i) := by unfold bt; rw [Int32.toBitVec_and, BitVec.getLsbD_and]
theorem b_sshr (n : Nat) (hn : n < 32) (x : Int32) {i : Nat} (hi : i < 32) : bt (x >>> (nI n &&& 31)) i = if n + i < 32 then bt x (n + i) else bt x 31 := by
  unfold bt
  rw [Int32.toBitVec_shiftRight]
  show (x.toBitVec.sshiftRight ((nI n &&& 31).toBitVec.smod 32).toNat).getLsbD i = _
  rw [sh_k n hn, BitVec.getLsbD_sshiftRight, BitVec.msb_eq_getLsbD_last]
  simp [hi]
theorem b_one : ∀ j, j < 31 → ∀ i, i < 32 → bt (nI (2 ^ j)) i = decide (i = j) := by decide +kernel
/-- a bit behind a shift is a bit before it -/
theorem sar_bit (x : Int32) {k j : Nat} (h : k + j < 31) : (x >>> (nI k &&& 31)) &&& nI (2 ^ j) = (x &&& nI (2 ^ (k + j))) >>> (nI k &&& 31) := by
  apply b_ext
  intro i hi
  rw [b_and, b_sshr k (by omega) _ hi, b_one j (by omega) i hi, b_sshr k (by omega) _ hi]
  by_cases hj : i = j
  · subst hj
    rw [if_pos (by omega), if_pos (by omega), b_and, b_one (k + i) h (k + i) (by omega)]
    simp
  · rw [decide_eq_false hj, Bool.and_false]
    by_cases hk : k + i < 32
    · rw [if_pos hk, b_and, b_one (k + j) h (k + i) hk, decide_eq_false (by omega), Bool.and_false]
    · rw [if_neg hk, b_and, b_one (k + j) h 31 (by omega), decide_eq_false (by omega), Bool.and_false]
theorem n_bit (x m : Nat) : x.testBit m = decide (x / 2 ^ m % 2 = 1) := Nat.testBit_eq_decide_div_mod_eq
theorem n_xor (x y m : Nat) : (x ^^^ y) / 2 ^ m % 2 = (x / 2 ^ m % 2 + y / 2 ^ m % 2) % 2 := by
  have h := Nat.testBit_xor x y m
  rw [n_bit, n_bit, n_bit] at h
  rcases Nat.mod_two_eq_zero_or_one (x / 2 ^ m) with a | a <;> rcases Nat.mod_two_eq_zero_or_one (y / 2 ^ m) with b | b <;> rcases Nat.mod_two_eq_zero_or_one ((x ^^^ y) / 2 ^ m) with c | c <;> rw [a, b, c] at h <;> first | (rw [a, b, c]; done) | (exact absurd h (by decide))
theorem n_and (x y m : Nat) : (x &&& y) / 2 ^ m % 2 = (x / 2 ^ m % 2) * (y / 2 ^ m % 2) := by
  have h := Nat.testBit_and x y m
  rw [n_bit, n_bit, n_bit] at h
  rcases Nat.mod_two_eq_zero_or_one (x / 2 ^ m) with a | a <;> rcases Nat.mod_two_eq_zero_or_one (y / 2 ^ m) with b | b <;> rcases Nat.mod_two_eq_zero_or_one ((x &&& y) / 2 ^ m) with c | c <;> rw [a, b, c] at h <;> first | (rw [a, b, c]; done) | (exact absurd h (by decide))
theorem n_pow (x m : Nat) : x &&& 2 ^ m = x / 2 ^ m % 2 * 2 ^ m := by
  apply Nat.eq_of_testBit_eq
  intro i
  rw [Nat.testBit_and, Nat.testBit_two_pow]
  have hx := n_bit x m
  rcases Nat.mod_two_eq_zero_or_one (x / 2 ^ m) with a | a <;> rw [a] at hx ⊢
  · rw [Nat.zero_mul, Nat.zero_testBit]
    by_cases h : m = i
    · subst h; rw [hx]; rfl
    · rw [decide_eq_false h, Bool.and_false]
  · rw [Nat.one_mul, Nat.testBit_two_pow]
    by_cases h : m = i
    · subst h; rw [hx]; rfl
    · rw [decide_eq_false h, Bool.and_false]
theorem i_pow (x m : Nat) : nI x &&& nI (2 ^ m) = nI (x / 2 ^ m % 2 * 2 ^ m) := by rw [cb_and_n, n_pow]
theorem i_mod (x m : Nat) : nI x &&& nI (2 ^ m - 1) = nI (x % 2 ^ m) := by rw [cb_and_n, Nat.and_two_pow_sub_one_eq_mod]
/-- a difference -/
theorem nI_wrap (x : Nat) : nI (x + 4294967296) = nI x := by
  apply Int32.toBitVec_inj.mp
  show BitVec.ofNat 32 (x + 4294967296) = BitVec.ofNat 32 x
  apply BitVec.eq_of_toNat_eq
  simp
theorem nI_sub2 {x y : Nat} (h : y ≤ 4294967296) : nI x - nI y = nI (x + (4294967296 - y)) := by
  have e : nI (x + (4294967296 - y)) + nI y = nI x := by
    rw [nI_add, show x + (4294967296 - y) + y = x + 4294967296 by omega, nI_wrap]
  rw [← e, Int32.add_sub_cancel]
def zf (R : Nat) : Nat := if R = 0 then 1 else 0
theorem zf_le (R : Nat) : zf R ≤ 1 := by unfold zf; split <;> omega
theorem sz_8 : ∀ R, R < 256 → c_Flags_signAndZero (nI R) = some (nI (R / 128 * 128 + zf R * 64)) := by decide +kernel
theorem sz_16 {R : Nat} (h : R < 65536) : c_Flags_wordSignAndZero (nI R) = some (nI (R / 32768 * 128 + zf R * 64)) := by
  unfold c_Flags_wordSignAndZero
  rw [cb_shr8 (by omega), show (128 : Int32) = nI (2 ^ 7) from rfl, i_pow]
  have e : (if nI R = 0 then (64 : Int32) else 0) = nI (zf R * 64) := by
    unfold zf
    by_cases hR : R = 0
    · subst hR; rfl
    · rw [if_neg (nI_ne0 (by omega) (by omega)), if_neg hR]; rfl
  rw [e, cb_or_n]
  have hb : R / 256 / 2 ^ 7 % 2 = R / 32768 := by omega
  rw [hb]
  have hz := zf_le R
  rcases (show R / 32768 = 0 ∨ R / 32768 = 1 by omega) with a | a <;> rcases (show zf R = 0 ∨ zf R = 1 by omega) with b | b <;> rw [a, b] <;> rfl
/-- the flags as one number -/
def fl (s z h p n c : Nat) : Nat := s * 128 + z * 64 + h * 16 + p * 4 + n * 2 + c
theorem fl_lt {s z h p n c : Nat} (h1 : s ≤ 1) (h2 : z ≤ 1) (h3 : h ≤ 1) (h4 : p ≤ 1) (h5 : n ≤ 1) (h6 : c ≤ 1) : fl s z h p n c < 256 := by unfold fl; omega
theorem fl_or : ∀ s, s < 2 → ∀ z, z < 2 → ∀ h, h < 2 → ∀ p, p < 2 → ∀ n, n < 2 → ∀ c, c < 2 → ((((s * 128 + z * 64) ||| h * 16) ||| p * 4) ||| n * 2) ||| c = fl s z h p n c := by decide +kernel
theorem fl_asm {R s z h p n c : Nat} (h1 : s ≤ 1) (h2 : z ≤ 1) (h3 : h ≤ 1) (h4 : p ≤ 1) (h5 : n ≤ 1) (h6 : c ≤ 1) : nI (((((R * 256 ||| (s * 128 + z * 64)) ||| h * 16) ||| p * 4) ||| n * 2) ||| c) = nI (R * 256 + fl s z h p n c) := by
  congr 1
  have e := fl_or s (by omega) z (by omega) h (by omega) p (by omega) n (by omega) c (by omega)
  rw [Nat.or_assoc, Nat.or_assoc, Nat.or_assoc, Nat.or_assoc] at *
  rw [e, Nat.or_comm, show R * 256 = R * 2 ^ 8 from rfl, or_add (show fl s z h p n c < 2 ^ 8 from fl_lt h1 h2 h3 h4 h5 h6), Nat.add_comm]
theorem prod01 {x y z : Nat} (hx : x = 0 ∨ x = 1) (hy : y = 0 ∨ y = 1) (h : (x = 0 → z = 0) ∧ (y = 0 → z = 0) ∧ (x = 1 → y = 1 → z = 1)) : x * y = z := by
  rcases hx with rfl | rfl
  · rw [Nat.zero_mul]; exact (h.1 rfl).symm
  · rw [Nat.one_mul]
    rcases hy with rfl | rfl
    · exact (h.2.1 rfl).symm
    · exact (h.2.2 rfl rfl).symm
theorem mod2 (x : Nat) : x % 2 = 0 ∨ x % 2 = 1 := Nat.mod_two_eq_zero_or_one x
end P7
