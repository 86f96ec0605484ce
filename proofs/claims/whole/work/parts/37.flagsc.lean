section P7
theorem dm4_8 (T : Nat) : (T + 8589934336) / 2 ^ 4 % 2 = T / 2 ^ 4 % 2 := by omega
theorem dm7_8 (T : Nat) : (T + 8589934336) / 2 ^ 7 % 2 = T / 2 ^ 7 % 2 := by omega
theorem dm8_8 {T : Nat} (h : T / 2 ^ 8 ≤ 1) : (T + 8589934336) / 2 ^ 8 % 2 = 1 - T / 2 ^ 8 := by omega
theorem dmS_8 (T : Nat) : (T + 8589934336) % 2 ^ 8 = T % 2 ^ 8 := by omega
theorem dm4_16 (T : Nat) : (T + 8589869056) / 2 ^ 12 % 2 = T / 2 ^ 12 % 2 := by omega
theorem dm7_16 (T : Nat) : (T + 8589869056) / 2 ^ 15 % 2 = T / 2 ^ 15 % 2 := by omega
theorem dm8_16 {T : Nat} (h : T / 2 ^ 16 ≤ 1) : (T + 8589869056) / 2 ^ 16 % 2 = 1 - T / 2 ^ 16 := by omega
theorem dmS_16 (T : Nat) : (T + 8589869056) % 2 ^ 16 = T % 2 ^ 16 := by omega
theorem c_sub_8 {a b w : Nat} (ha : a < 256) (hb : b < 256) (hw : w ≤ 1) : c_Flags_subtract (nI a) (nI b) (nI w) = some (nI (aS a (255 - b) (1 - w) 8 * 256 + fl (aS a (255 - b) (1 - w) 8 / 128) (zf (aS a (255 - b) (1 - w) 8)) (1 - aC a (255 - b) (1 - w) 4) ((aC a (255 - b) (1 - w) 7 + aC a (255 - b) (1 - w) 8) % 2) 1 (1 - aC a (255 - b) (1 - w) 8))) := by
  have hc : 1 - w ≤ 1 := by omega
  have hb' : 255 - b < 256 := by omega
  have eD : a + (4294967296 - b) + (4294967296 - w) = (a + (255 - b) + (1 - w)) + 8589934336 := by omega
  have vb : ∀ m, m < 8 → b / 2 ^ m % 2 = 1 - (255 - b) / 2 ^ m % 2 := by
    intro m hm
    have hx : 255 - b = (2 ^ 8 - 1) - b := rfl
    have h1 := n_bit (255 - b) m
    rw [hx, show (2 ^ 8 - 1) - b = 2 ^ 8 - (b + 1) by omega, Nat.testBit_two_pow_sub_succ (show b < 2 ^ 8 from hb), n_bit b m, decide_eq_true hm, Bool.true_and] at h1
    rw [show 255 - b = 2 ^ 8 - (b + 1) by omega]
    rcases bit01 (b / 2 ^ m) with p | p <;> rcases bit01 ((2 ^ 8 - (b + 1)) / 2 ^ m) with q | q <;> rw [p, q] at h1 <;> rw [p, q] <;> first | rfl | exact absurd h1 (by decide)
  have e8 : (a + (255 - b) + (1 - w)) / 2 ^ 8 = aC a (255 - b) (1 - w) 8 := by
    unfold aC aT
    rw [Nat.mod_eq_of_lt (show a < 2 ^ 8 from ha), Nat.mod_eq_of_lt (show 255 - b < 2 ^ 8 from hb')]
  have eS : (a + (255 - b) + (1 - w)) % 2 ^ 8 = aS a (255 - b) (1 - w) 8 := by
    unfold aS aT
    rw [Nat.mod_eq_of_lt (show a < 2 ^ 8 from ha), Nat.mod_eq_of_lt (show 255 - b < 2 ^ 8 from hb')]
  have g4 := s_mod2 (a := a) (b := 255 - b) (c := 1 - w) 4
  have g7 := s_mod2 (a := a) (b := 255 - b) (c := 1 - w) 7
  have b4 := vb 4 (by omega)
  have b7 := vb 7 (by omega)
  have c4 := aC_le (a := a) (b := 255 - b) hc 4
  have c7 := aC_le (a := a) (b := 255 - b) hc 7
  have c8 := aC_le (a := a) (b := 255 - b) hc 8
  have k8 : aC a (255 - b) (1 - w) 8 = (aC a (255 - b) (1 - w) 7 + a / 2 ^ 7 % 2 + (255 - b) / 2 ^ 7 % 2) / 2 := aC_succ 7
  have hlt : aS a (255 - b) (1 - w) 8 < 256 := aS_lt _ _ _ 8
  generalize hT : a + (255 - b) + (1 - w) = T at *
  have d4 := dm4_8 T
  have d7 := dm7_8 T
  have d8 := dm8_8 (T := T) (by rw [e8]; exact c8)
  have dS := dmS_8 T
  have hh : (a ^^^ b ^^^ (T + 8589934336)) / 2 ^ 4 % 2 = 1 - aC a (255 - b) (1 - w) 4 := by
    rw [n_xor, n_xor, d4, g4, b4]
    exact sh_cases _ (Nat.mod_lt _ (by omega)) _ (Nat.mod_lt _ (by omega)) _ (by omega)
  have hp : ((a ^^^ b) &&& (a ^^^ (T + 8589934336))) / 2 ^ 7 % 2 = (aC a (255 - b) (1 - w) 7 + aC a (255 - b) (1 - w) 8) % 2 := by
    rw [n_and, n_xor, n_xor, d7, g7, b7, k8]
    exact sv_cases _ (Nat.mod_lt _ (by omega)) _ (Nat.mod_lt _ (by omega)) _ (by omega)
  have q := fl_asm (R := aS a (255 - b) (1 - w) 8) (s := aS a (255 - b) (1 - w) 8 / 128) (z := zf (aS a (255 - b) (1 - w) 8)) (h := 1 - aC a (255 - b) (1 - w) 4) (p := (aC a (255 - b) (1 - w) 7 + aC a (255 - b) (1 - w) 8) % 2) (n := 1) (c := 1 - aC a (255 - b) (1 - w) 8) (by omega) (zf_le _) (by omega) (by omega) (by omega) (by omega)
  rw [e8] at d8
  rw [eS] at dS
  clear g4 g7 b4 b7 vb k8 e8 eS d4 d7
  generalize hX : a ^^^ b ^^^ (T + 8589934336) = X at hh
  generalize hY : (a ^^^ b) &&& (a ^^^ (T + 8589934336)) = Y at hp
  generalize (aC a (255 - b) (1 - w) 7 + aC a (255 - b) (1 - w) 8) % 2 = p at *
  have hp1 : p ≤ 1 := by rw [← hp]; exact Nat.le_of_lt_succ (Nat.mod_lt _ (by omega))
  unfold c_Flags_subtract
  simp only [cb_let_e]
  rw [nI_sub2 (by omega), nI_sub2 (by omega), eD]
  simp only [cb_xor_n, cb_and_n, hX, hY]
  have x1 : nI (T + 8589934336) &&& 255 = nI (aS a (255 - b) (1 - w) 8) := (i_mod (T + 8589934336) 8).trans (congrArg nI dS)
  have x2 : nI X &&& 16 = nI ((1 - aC a (255 - b) (1 - w) 4) * 16) := (i_pow X 4).trans (congrArg nI (by rw [hh]))
  have x3 : (nI Y &&& 128) >>> ((5 : Int32) &&& 31) = nI (p * 4) := by
    rw [show nI Y &&& 128 = nI (p * 128) from (i_pow Y 7).trans (congrArg nI (by rw [hp]))]
    exact (shr_k (k := 5) (by omega) (by omega)).trans (congrArg nI (by omega))
  have x4 : (nI (T + 8589934336) >>> ((8 : Int32) &&& 31)) &&& 1 = nI (1 - aC a (255 - b) (1 - w) 8) := by
    refine (sar_bit (nI (T + 8589934336)) (k := 8) (j := 0) (by omega)).trans ?_
    rw [show nI (T + 8589934336) &&& nI (2 ^ (8 + 0)) = nI ((1 - aC a (255 - b) (1 - w) 8) * 256) from (i_pow _ 8).trans (congrArg nI (by rw [d8]))]
    exact (shr_k (k := 8) (by omega) (by omega)).trans (congrArg nI (by omega))
  rw [x1, x2, x3, x4, cb_bo_e (sz_8 _ hlt), cb_shl8 (by omega), show (2 : Int32) = nI (1 * 2) from rfl, cb_or_n, cb_or_n, cb_or_n, cb_or_n, cb_or_n, q]
theorem c_sub_16 {a b w : Nat} (ha : a < 65536) (hb : b < 65536) (hw : w ≤ 1) : c_Flags_subtractWords (nI a) (nI b) (nI w) = some (nI (aS a (65535 - b) (1 - w) 16 * 256 + fl (aS a (65535 - b) (1 - w) 16 / 32768) (zf (aS a (65535 - b) (1 - w) 16)) (1 - aC a (65535 - b) (1 - w) 12) ((aC a (65535 - b) (1 - w) 15 + aC a (65535 - b) (1 - w) 16) % 2) 1 (1 - aC a (65535 - b) (1 - w) 16))) := by
  have hc : 1 - w ≤ 1 := by omega
  have hb' : 65535 - b < 65536 := by omega
  have eD : a + (4294967296 - b) + (4294967296 - w) = (a + (65535 - b) + (1 - w)) + 8589869056 := by omega
  have vb : ∀ m, m < 16 → b / 2 ^ m % 2 = 1 - (65535 - b) / 2 ^ m % 2 := by
    intro m hm
    have hx : 65535 - b = (2 ^ 16 - 1) - b := rfl
    have h1 := n_bit (65535 - b) m
    rw [hx, show (2 ^ 16 - 1) - b = 2 ^ 16 - (b + 1) by omega, Nat.testBit_two_pow_sub_succ (show b < 2 ^ 16 from hb), n_bit b m, decide_eq_true hm, Bool.true_and] at h1
    rw [show 65535 - b = 2 ^ 16 - (b + 1) by omega]
    rcases bit01 (b / 2 ^ m) with p | p <;> rcases bit01 ((2 ^ 16 - (b + 1)) / 2 ^ m) with q | q <;> rw [p, q] at h1 <;> rw [p, q] <;> first | rfl | exact absurd h1 (by decide)
  have e8 : (a + (65535 - b) + (1 - w)) / 2 ^ 16 = aC a (65535 - b) (1 - w) 16 := by
    unfold aC aT
    rw [Nat.mod_eq_of_lt (show a < 2 ^ 16 from ha), Nat.mod_eq_of_lt (show 65535 - b < 2 ^ 16 from hb')]
  have eS : (a + (65535 - b) + (1 - w)) % 2 ^ 16 = aS a (65535 - b) (1 - w) 16 := by
    unfold aS aT
    rw [Nat.mod_eq_of_lt (show a < 2 ^ 16 from ha), Nat.mod_eq_of_lt (show 65535 - b < 2 ^ 16 from hb')]
  have g4 := s_mod2 (a := a) (b := 65535 - b) (c := 1 - w) 12
  have g7 := s_mod2 (a := a) (b := 65535 - b) (c := 1 - w) 15
  have b4 := vb 12 (by omega)
  have b7 := vb 15 (by omega)
  have c4 := aC_le (a := a) (b := 65535 - b) hc 12
  have c7 := aC_le (a := a) (b := 65535 - b) hc 15
  have c8 := aC_le (a := a) (b := 65535 - b) hc 16
  have k8 : aC a (65535 - b) (1 - w) 16 = (aC a (65535 - b) (1 - w) 15 + a / 2 ^ 15 % 2 + (65535 - b) / 2 ^ 15 % 2) / 2 := aC_succ 15
  have hlt : aS a (65535 - b) (1 - w) 16 < 65536 := aS_lt _ _ _ 16
  generalize hT : a + (65535 - b) + (1 - w) = T at *
  have d4 := dm4_16 T
  have d7 := dm7_16 T
  have d8 := dm8_16 (T := T) (by rw [e8]; exact c8)
  have dS := dmS_16 T
  have hh : (a ^^^ b ^^^ (T + 8589869056)) / 2 ^ 12 % 2 = 1 - aC a (65535 - b) (1 - w) 12 := by
    rw [n_xor, n_xor, d4, g4, b4]
    exact sh_cases _ (Nat.mod_lt _ (by omega)) _ (Nat.mod_lt _ (by omega)) _ (by omega)
  have hp : ((a ^^^ b) &&& (a ^^^ (T + 8589869056))) / 2 ^ 15 % 2 = (aC a (65535 - b) (1 - w) 15 + aC a (65535 - b) (1 - w) 16) % 2 := by
    rw [n_and, n_xor, n_xor, d7, g7, b7, k8]
    exact sv_cases _ (Nat.mod_lt _ (by omega)) _ (Nat.mod_lt _ (by omega)) _ (by omega)
  have q := fl_asm (R := aS a (65535 - b) (1 - w) 16) (s := aS a (65535 - b) (1 - w) 16 / 32768) (z := zf (aS a (65535 - b) (1 - w) 16)) (h := 1 - aC a (65535 - b) (1 - w) 12) (p := (aC a (65535 - b) (1 - w) 15 + aC a (65535 - b) (1 - w) 16) % 2) (n := 1) (c := 1 - aC a (65535 - b) (1 - w) 16) (by omega) (zf_le _) (by omega) (by omega) (by omega) (by omega)
  rw [e8] at d8
  rw [eS] at dS
  clear g4 g7 b4 b7 vb k8 e8 eS d4 d7
  generalize hX : a ^^^ b ^^^ (T + 8589869056) = X at hh
  generalize hY : (a ^^^ b) &&& (a ^^^ (T + 8589869056)) = Y at hp
  generalize (aC a (65535 - b) (1 - w) 15 + aC a (65535 - b) (1 - w) 16) % 2 = p at *
  have hp1 : p ≤ 1 := by rw [← hp]; exact Nat.le_of_lt_succ (Nat.mod_lt _ (by omega))
  unfold c_Flags_subtractWords
  simp only [cb_let_e]
  rw [nI_sub2 (by omega), nI_sub2 (by omega), eD]
  simp only [cb_xor_n, cb_and_n, hX, hY]
  have x1 : nI (T + 8589869056) &&& 65535 = nI (aS a (65535 - b) (1 - w) 16) := (i_mod (T + 8589869056) 16).trans (congrArg nI dS)
  have x2 : (nI X >>> ((8 : Int32) &&& 31)) &&& 16 = nI ((1 - aC a (65535 - b) (1 - w) 12) * 16) := by
    refine (sar_bit (nI X) (k := 8) (j := 4) (by omega)).trans ?_
    rw [show nI X &&& nI (2 ^ (8 + 4)) = nI ((1 - aC a (65535 - b) (1 - w) 12) * 4096) from (i_pow X 12).trans (congrArg nI (by rw [hh]))]
    exact (shr_k (k := 8) (by omega) (by omega)).trans (congrArg nI (by omega))
  have x3 : (nI Y &&& 32768) >>> ((13 : Int32) &&& 31) = nI (p * 4) := by
    rw [show nI Y &&& 32768 = nI (p * 32768) from (i_pow Y 15).trans (congrArg nI (by rw [hp]))]
    exact (shr_k (k := 13) (by omega) (by omega)).trans (congrArg nI (by omega))
  have x4 : (nI (T + 8589869056) >>> ((16 : Int32) &&& 31)) &&& 1 = nI (1 - aC a (65535 - b) (1 - w) 16) := by
    refine (sar_bit (nI (T + 8589869056)) (k := 16) (j := 0) (by omega)).trans ?_
    rw [show nI (T + 8589869056) &&& nI (2 ^ (16 + 0)) = nI ((1 - aC a (65535 - b) (1 - w) 16) * 65536) from (i_pow _ 16).trans (congrArg nI (by rw [d8]))]
    exact (shr_k (k := 16) (by omega) (by omega)).trans (congrArg nI (by omega))
  rw [x1, x2, x3, x4, cb_bo_e (sz_16 hlt), cb_shl8 (by omega), show (2 : Int32) = nI (1 * 2) from rfl, cb_or_n, cb_or_n, cb_or_n, cb_or_n, cb_or_n, q]
end P7
