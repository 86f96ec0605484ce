section P7
theorem s_div (a b c m : Nat) : (a + b + c) / 2 ^ m = a / 2 ^ m + b / 2 ^ m + aC a b c m := by
  unfold aC aT
  have h3 := Nat.two_pow_pos m
  have ha := Nat.div_add_mod a (2 ^ m)
  have hb := Nat.div_add_mod b (2 ^ m)
  have e : a + b + c = (a % 2 ^ m + b % 2 ^ m + c) + 2 ^ m * (a / 2 ^ m + b / 2 ^ m) := by
    rw [Nat.mul_add]; omega
  rw [e, Nat.add_mul_div_left _ _ h3, Nat.add_comm]
theorem bit01 (x : Nat) : x % 2 = 0 ∨ x % 2 = 1 := Nat.mod_two_eq_zero_or_one x
theorem half_g {a b c : Nat} (hc : c ≤ 1) (m : Nat) : ((a / 2 ^ m % 2 + b / 2 ^ m % 2) % 2 + (a + b + c) / 2 ^ m % 2) % 2 = aC a b c m := by
  have h1 := aC_le (a := a) (b := b) hc m
  rw [s_div]
  generalize aC a b c m = k at *
  generalize a / 2 ^ m = x
  generalize b / 2 ^ m = y
  omega
theorem ov_cases : ∀ u, u < 2 → ∀ v, v < 2 → ∀ k, k < 2 → ((u + (u + v + k) % 2) % 2) * ((v + (u + v + k) % 2) % 2) = (k + (k + u + v) / 2) % 2 := by decide
theorem sv_cases : ∀ u, u < 2 → ∀ v, v < 2 → ∀ k, k < 2 → ((u + (1 - v)) % 2) * ((u + (u + v + k) % 2) % 2) = (k + (k + u + v) / 2) % 2 := by decide
theorem sh_cases : ∀ u, u < 2 → ∀ v, v < 2 → ∀ k, k < 2 → ((u + (1 - v)) % 2 + (u + v + k) % 2) % 2 = 1 - k := by decide
theorem s_mod2 {a b c : Nat} (m : Nat) : (a + b + c) / 2 ^ m % 2 = (a / 2 ^ m % 2 + b / 2 ^ m % 2 + aC a b c m) % 2 := by
  rw [s_div]; omega
theorem ov_g {a b c : Nat} (hc : c ≤ 1) (m : Nat) : ((a / 2 ^ m % 2 + (a + b + c) / 2 ^ m % 2) % 2) * ((b / 2 ^ m % 2 + (a + b + c) / 2 ^ m % 2) % 2) = (aC a b c m + aC a b c (m + 1)) % 2 := by
  have h1 := aC_le (a := a) (b := b) hc m
  rw [aC_succ, s_mod2]
  exact ov_cases _ (Nat.mod_lt _ (by omega)) _ (Nat.mod_lt _ (by omega)) _ (by omega)
theorem c_add_8 {a b c : Nat} (ha : a < 256) (hb : b < 256) (hc : c ≤ 1) : c_Flags_add (nI a) (nI b) (nI c) = some (nI (aS a b c 8 * 256 + fl (aS a b c 8 / 128) (zf (aS a b c 8)) (aC a b c 4) ((aC a b c 7 + aC a b c 8) % 2) 0 (aC a b c 8))) := by
  have eS : (a + b + c) % 2 ^ 8 = aS a b c 8 := by
    unfold aS aT
    rw [Nat.mod_eq_of_lt (show a < 2 ^ 8 from ha), Nat.mod_eq_of_lt (show b < 2 ^ 8 from hb)]
  have e8 : (a + b + c) / 2 ^ 8 = aC a b c 8 := by
    unfold aC aT
    rw [Nat.mod_eq_of_lt (show a < 2 ^ 8 from ha), Nat.mod_eq_of_lt (show b < 2 ^ 8 from hb)]
  have hlt : aS a b c 8 < 256 := aS_lt a b c 8
  have hh : (a ^^^ b ^^^ (a + b + c)) / 2 ^ 4 % 2 = aC a b c 4 := by
    rw [n_xor, n_xor]; exact half_g hc 4
  have hp : ((a ^^^ (a + b + c)) &&& (b ^^^ (a + b + c))) / 2 ^ 7 % 2 = (aC a b c 7 + aC a b c 8) % 2 := by
    rw [n_and, n_xor, n_xor]; exact ov_g hc 7
  have hS : a + b + c < 2 ^ 31 := by omega
  have c4 := aC_le (a := a) (b := b) hc 4
  have c8 := aC_le (a := a) (b := b) hc 8
  have q := fl_asm (R := aS a b c 8) (s := aS a b c 8 / 128) (z := zf (aS a b c 8)) (h := aC a b c 4) (p := (aC a b c 7 + aC a b c 8) % 2) (n := 0) (c := aC a b c 8) (by omega) (zf_le _) c4 (by omega) (by omega) c8
  generalize hX : a ^^^ b ^^^ (a + b + c) = X at hh
  generalize hY : (a ^^^ (a + b + c)) &&& (b ^^^ (a + b + c)) = Y at hp
  generalize (aC a b c 7 + aC a b c 8) % 2 = p at *
  have hp1 : p ≤ 1 := by rw [← hp]; exact Nat.le_of_lt_succ (Nat.mod_lt _ (by omega))
  unfold c_Flags_add
  simp only [cb_let_e, nI_add, cb_xor_n, cb_and_n, hX, hY]
  have x1 : nI (a + b + c) &&& 255 = nI (aS a b c 8) := (i_mod (a + b + c) 8).trans (congrArg nI eS)
  have x2 : nI X &&& 16 = nI (aC a b c 4 * 16) := (i_pow X 4).trans (congrArg nI (by rw [hh]))
  have x3 : (nI Y &&& 128) >>> ((5 : Int32) &&& 31) = nI (p * 4) := by
    rw [show nI Y &&& 128 = nI (p * 128) from (i_pow Y 7).trans (congrArg nI (by rw [hp]))]
    exact (shr_k (k := 5) (by omega) (by omega)).trans (congrArg nI (by omega))
  have x4 : nI (a + b + c) >>> ((8 : Int32) &&& 31) = nI (aC a b c 8) := (shr_k (k := 8) hS (by omega)).trans (congrArg nI e8)
  rw [x1, x2, x3, x4, cb_bo_e (sz_8 _ hlt), cb_shl8 (by omega), cb_or_n, cb_or_n, cb_or_n, cb_or_n, ← q, Nat.zero_mul, Nat.or_zero]
theorem c_add_16 {a b c : Nat} (ha : a < 65536) (hb : b < 65536) (hc : c ≤ 1) : c_Flags_addWords (nI a) (nI b) (nI c) = some (nI (aS a b c 16 * 256 + fl (aS a b c 16 / 32768) (zf (aS a b c 16)) (aC a b c 12) ((aC a b c 15 + aC a b c 16) % 2) 0 (aC a b c 16))) := by
  have eS : (a + b + c) % 2 ^ 16 = aS a b c 16 := by
    unfold aS aT
    rw [Nat.mod_eq_of_lt (show a < 2 ^ 16 from ha), Nat.mod_eq_of_lt (show b < 2 ^ 16 from hb)]
  have e8 : (a + b + c) / 2 ^ 16 = aC a b c 16 := by
    unfold aC aT
    rw [Nat.mod_eq_of_lt (show a < 2 ^ 16 from ha), Nat.mod_eq_of_lt (show b < 2 ^ 16 from hb)]
  have hlt : aS a b c 16 < 65536 := aS_lt a b c 16
  have hh : (a ^^^ b ^^^ (a + b + c)) / 2 ^ 12 % 2 = aC a b c 12 := by
    rw [n_xor, n_xor]; exact half_g hc 12
  have hp : ((a ^^^ (a + b + c)) &&& (b ^^^ (a + b + c))) / 2 ^ 15 % 2 = (aC a b c 15 + aC a b c 16) % 2 := by
    rw [n_and, n_xor, n_xor]; exact ov_g hc 15
  have hS : a + b + c < 2 ^ 31 := by omega
  have c4 := aC_le (a := a) (b := b) hc 12
  have c8 := aC_le (a := a) (b := b) hc 16
  have q := fl_asm (R := aS a b c 16) (s := aS a b c 16 / 32768) (z := zf (aS a b c 16)) (h := aC a b c 12) (p := (aC a b c 15 + aC a b c 16) % 2) (n := 0) (c := aC a b c 16) (by omega) (zf_le _) c4 (by omega) (by omega) c8
  generalize hX : a ^^^ b ^^^ (a + b + c) = X at hh
  generalize hY : (a ^^^ (a + b + c)) &&& (b ^^^ (a + b + c)) = Y at hp
  generalize (aC a b c 15 + aC a b c 16) % 2 = p at *
  have hp1 : p ≤ 1 := by rw [← hp]; exact Nat.le_of_lt_succ (Nat.mod_lt _ (by omega))
  unfold c_Flags_addWords
  simp only [cb_let_e, nI_add, cb_xor_n, cb_and_n, hX, hY]
  have x1 : nI (a + b + c) &&& 65535 = nI (aS a b c 16) := (i_mod (a + b + c) 16).trans (congrArg nI eS)
  have x2 : (nI X >>> ((8 : Int32) &&& 31)) &&& 16 = nI (aC a b c 12 * 16) := by
    refine (sar_bit (nI X) (k := 8) (j := 4) (by omega)).trans ?_
    rw [show nI X &&& nI (2 ^ (8 + 4)) = nI (aC a b c 12 * 4096) from (i_pow X 12).trans (congrArg nI (by rw [hh]))]
    exact (shr_k (k := 8) (by omega) (by omega)).trans (congrArg nI (by omega))
  have x3 : (nI Y &&& 32768) >>> ((13 : Int32) &&& 31) = nI (p * 4) := by
    rw [show nI Y &&& 32768 = nI (p * 32768) from (i_pow Y 15).trans (congrArg nI (by rw [hp]))]
    exact (shr_k (k := 13) (by omega) (by omega)).trans (congrArg nI (by omega))
  have x4 : nI (a + b + c) >>> ((16 : Int32) &&& 31) = nI (aC a b c 16) := (shr_k (k := 16) hS (by omega)).trans (congrArg nI e8)
  rw [x1, x2, x3, x4, cb_bo_e (sz_16 hlt), cb_shl8 (by omega), cb_or_n, cb_or_n, cb_or_n, cb_or_n, ← q, Nat.zero_mul, Nat.or_zero]
end P7
