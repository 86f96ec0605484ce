section P7
theorem c_sub_8 {a b w : Nat} (ha : a < 256) (hb : b < 256) (hw : w ≤ 1) {B W : Nat} (eB : B = 255 - b) (eW : W = 1 - w) : c_Flags_subtract (nI a) (nI b) (nI w) = some (nI (aS a B W 8 * 256 + fl (aS a B W 8 / 128) (zf (aS a B W 8)) (1 - aC a B W 4) ((aC a B W 7 + aC a B W 8) % 2) 1 (1 - aC a B W 8))) := by
  have eD := eD_8 (a := a) hb hw
  rw [← eB, ← eW] at eD
  have hB : B < 256 := by rw [eB]; omega
  have hW : W ≤ 1 := by rw [eW]; exact m1_le w
  have b4 : b / 2 ^ 4 % 2 = 1 - B / 2 ^ 4 % 2 := by rw [eB, cm_8]; exact vb_n (n := 8) hb (by decide)
  have b7 : b / 2 ^ 7 % 2 = 1 - B / 2 ^ 7 % 2 := by rw [eB, cm_8]; exact vb_n (n := 8) hb (by decide)
  have hb1 : b ≤ 4294967296 := w_le (Nat.lt_of_lt_of_le hb (by decide))
  have hw1 : w ≤ 4294967296 := w1_le hw
  clear eB eW
  have e8 : (a + B + W) / 2 ^ 8 = aC a B W 8 := by
    unfold aC aT
    rw [Nat.mod_eq_of_lt (show a < 2 ^ 8 from ha), Nat.mod_eq_of_lt (show B < 2 ^ 8 from hB)]
  have eS : (a + B + W) % 2 ^ 8 = aS a B W 8 := by
    unfold aS aT
    rw [Nat.mod_eq_of_lt (show a < 2 ^ 8 from ha), Nat.mod_eq_of_lt (show B < 2 ^ 8 from hB)]
  have c4 := aC_le (a := a) (b := B) hW 4
  have c7 := aC_le (a := a) (b := B) hW 7
  have c8 := aC_le (a := a) (b := B) hW 8
  have hlt : aS a B W 8 < 256 := aS_lt _ _ _ 8
  have d8 : (a + B + W + 8589934336) / 2 ^ 8 % 2 = 1 - aC a B W 8 := by
    have := dm8_8 (T := a + B + W) (by rw [e8]; exact c8)
    rw [this, e8]
  have dS : (a + B + W + 8589934336) % 2 ^ 8 = aS a B W 8 := by rw [dmS_8, eS]
  have hh : (a ^^^ b ^^^ (a + B + W + 8589934336)) / 2 ^ 4 % 2 = 1 - aC a B W 4 := by
    rw [n_xor, n_xor, dm4_8, s_mod2, b4]
    exact sh_cases _ (lt_2 _) _ (lt_2 _) _ (le_2 c4)
  have hp : ((a ^^^ b) &&& (a ^^^ (a + B + W + 8589934336))) / 2 ^ 7 % 2 = (aC a B W 7 + aC a B W 8) % 2 := by
    rw [n_and, n_xor, n_xor, dm7_8, s_mod2, b7, show aC a B W 8 = (aC a B W 7 + a / 2 ^ 7 % 2 + B / 2 ^ 7 % 2) / 2 from aC_succ 7]
    exact sv_cases _ (lt_2 _) _ (lt_2 _) _ (le_2 c7)
  have q := fl_asm (R := aS a B W 8) (s := aS a B W 8 / 128) (z := zf (aS a B W 8)) (h := 1 - aC a B W 4) (p := (aC a B W 7 + aC a B W 8) % 2) (n := 1) (c := 1 - aC a B W 8) (t8_le hlt) (zf_le _) (m1_le _) (m2_le _) (Nat.le_refl 1) (m1_le _)
  have p1 := m2_le (aC a B W 7 + aC a B W 8)
  have h1 := m1_le (aC a B W 4)
  have k1 := m1_le (aC a B W 8)
  clear e8 eS b4 b7 c4 c7 c8 hB hW ha hb hw
  generalize a + B + W + 8589934336 = T at *
  generalize hX : a ^^^ b ^^^ T = X at hh
  generalize hY : (a ^^^ b) &&& (a ^^^ T) = Y at hp
  generalize (aC a B W 7 + aC a B W 8) % 2 = p at *
  generalize 1 - aC a B W 4 = h at *
  generalize 1 - aC a B W 8 = k at *
  generalize aS a B W 8 = R at *
  unfold c_Flags_subtract
  simp only [cb_let_e]
  rw [nI_sub2 hb1, nI_sub2 hw1, eD]
  simp only [cb_xor_n, cb_and_n, hX, hY]
  have x1 : nI T &&& 255 = nI R := (i_mod T 8).trans (congrArg nI dS)
  have x2 : nI X &&& 16 = nI (h * 16) := (i_pow X 4).trans (congrArg nI (by rw [hh]))
  have x3 : (nI Y &&& 128) >>> ((5 : Int32) &&& 31) = nI (p * 4) := by
    rw [show nI Y &&& 128 = nI (p * 128) from (i_pow Y 7).trans (congrArg nI (by rw [hp]))]
    exact x_sh p1 (k := 5) (by decide) (by decide) rfl
  have x4 : (nI T >>> ((8 : Int32) &&& 31)) &&& 1 = nI k := by
    refine (sar_bit (nI T) (k := 8) (j := 0) (by decide)).trans ?_
    rw [show nI T &&& nI (2 ^ (8 + 0)) = nI (k * 256) from (i_pow _ 8).trans (congrArg nI (by rw [d8]))]
    exact (x_sh k1 (k := 8) (by decide) (by decide) (d := 1) rfl).trans (congrArg nI (Nat.mul_one k))
  rw [x1, x2, x3, x4, cb_bo_e (sz_8 _ hlt), cb_shl8 (s8_lt hlt), show (2 : Int32) = nI (1 * 2) from rfl, cb_or_n, cb_or_n, cb_or_n, cb_or_n, cb_or_n, q]
theorem c_sub_16 {a b w : Nat} (ha : a < 65536) (hb : b < 65536) (hw : w ≤ 1) {B W : Nat} (eB : B = 65535 - b) (eW : W = 1 - w) : c_Flags_subtractWords (nI a) (nI b) (nI w) = some (nI (aS a B W 16 * 256 + fl (aS a B W 16 / 32768) (zf (aS a B W 16)) (1 - aC a B W 12) ((aC a B W 15 + aC a B W 16) % 2) 1 (1 - aC a B W 16))) := by
  have eD := eD_16 (a := a) hb hw
  rw [← eB, ← eW] at eD
  have hB : B < 65536 := by rw [eB]; omega
  have hW : W ≤ 1 := by rw [eW]; exact m1_le w
  have b4 : b / 2 ^ 12 % 2 = 1 - B / 2 ^ 12 % 2 := by rw [eB, cm_16]; exact vb_n (n := 16) hb (by decide)
  have b7 : b / 2 ^ 15 % 2 = 1 - B / 2 ^ 15 % 2 := by rw [eB, cm_16]; exact vb_n (n := 16) hb (by decide)
  have hb1 : b ≤ 4294967296 := w_le (Nat.lt_of_lt_of_le hb (by decide))
  have hw1 : w ≤ 4294967296 := w1_le hw
  clear eB eW
  have e8 : (a + B + W) / 2 ^ 16 = aC a B W 16 := by
    unfold aC aT
    rw [Nat.mod_eq_of_lt (show a < 2 ^ 16 from ha), Nat.mod_eq_of_lt (show B < 2 ^ 16 from hB)]
  have eS : (a + B + W) % 2 ^ 16 = aS a B W 16 := by
    unfold aS aT
    rw [Nat.mod_eq_of_lt (show a < 2 ^ 16 from ha), Nat.mod_eq_of_lt (show B < 2 ^ 16 from hB)]
  have c4 := aC_le (a := a) (b := B) hW 12
  have c7 := aC_le (a := a) (b := B) hW 15
  have c8 := aC_le (a := a) (b := B) hW 16
  have hlt : aS a B W 16 < 65536 := aS_lt _ _ _ 16
  have d8 : (a + B + W + 8589869056) / 2 ^ 16 % 2 = 1 - aC a B W 16 := by
    have := dm8_16 (T := a + B + W) (by rw [e8]; exact c8)
    rw [this, e8]
  have dS : (a + B + W + 8589869056) % 2 ^ 16 = aS a B W 16 := by rw [dmS_16, eS]
  have hh : (a ^^^ b ^^^ (a + B + W + 8589869056)) / 2 ^ 12 % 2 = 1 - aC a B W 12 := by
    rw [n_xor, n_xor, dm4_16, s_mod2, b4]
    exact sh_cases _ (lt_2 _) _ (lt_2 _) _ (le_2 c4)
  have hp : ((a ^^^ b) &&& (a ^^^ (a + B + W + 8589869056))) / 2 ^ 15 % 2 = (aC a B W 15 + aC a B W 16) % 2 := by
    rw [n_and, n_xor, n_xor, dm7_16, s_mod2, b7, show aC a B W 16 = (aC a B W 15 + a / 2 ^ 15 % 2 + B / 2 ^ 15 % 2) / 2 from aC_succ 15]
    exact sv_cases _ (lt_2 _) _ (lt_2 _) _ (le_2 c7)
  have q := fl_asm (R := aS a B W 16) (s := aS a B W 16 / 32768) (z := zf (aS a B W 16)) (h := 1 - aC a B W 12) (p := (aC a B W 15 + aC a B W 16) % 2) (n := 1) (c := 1 - aC a B W 16) (t16_le hlt) (zf_le _) (m1_le _) (m2_le _) (Nat.le_refl 1) (m1_le _)
  have p1 := m2_le (aC a B W 15 + aC a B W 16)
  have h1 := m1_le (aC a B W 12)
  have k1 := m1_le (aC a B W 16)
  clear e8 eS b4 b7 c4 c7 c8 hB hW ha hb hw
  generalize a + B + W + 8589869056 = T at *
  generalize hX : a ^^^ b ^^^ T = X at hh
  generalize hY : (a ^^^ b) &&& (a ^^^ T) = Y at hp
  generalize (aC a B W 15 + aC a B W 16) % 2 = p at *
  generalize 1 - aC a B W 12 = h at *
  generalize 1 - aC a B W 16 = k at *
  generalize aS a B W 16 = R at *
  unfold c_Flags_subtractWords
  simp only [cb_let_e]
  rw [nI_sub2 hb1, nI_sub2 hw1, eD]
  simp only [cb_xor_n, cb_and_n, hX, hY]
  have x1 : nI T &&& 65535 = nI R := (i_mod T 16).trans (congrArg nI dS)
  have x2 : (nI X >>> ((8 : Int32) &&& 31)) &&& 16 = nI (h * 16) := by
    refine (sar_bit (nI X) (k := 8) (j := 4) (by decide)).trans ?_
    rw [show nI X &&& nI (2 ^ (8 + 4)) = nI (h * 4096) from (i_pow X 12).trans (congrArg nI (by rw [hh]))]
    exact x_sh h1 (k := 8) (by decide) (by decide) rfl
  have x3 : (nI Y &&& 32768) >>> ((13 : Int32) &&& 31) = nI (p * 4) := by
    rw [show nI Y &&& 32768 = nI (p * 32768) from (i_pow Y 15).trans (congrArg nI (by rw [hp]))]
    exact x_sh p1 (k := 13) (by decide) (by decide) rfl
  have x4 : (nI T >>> ((16 : Int32) &&& 31)) &&& 1 = nI k := by
    refine (sar_bit (nI T) (k := 16) (j := 0) (by decide)).trans ?_
    rw [show nI T &&& nI (2 ^ (16 + 0)) = nI (k * 65536) from (i_pow _ 16).trans (congrArg nI (by rw [d8]))]
    exact (x_sh k1 (k := 16) (by decide) (by decide) (d := 1) rfl).trans (congrArg nI (Nat.mul_one k))
  rw [x1, x2, x3, x4, cb_bo_e (sz_16 hlt), cb_shl8 (s16_lt hlt), show (2 : Int32) = nI (1 * 2) from rfl, cb_or_n, cb_or_n, cb_or_n, cb_or_n, cb_or_n, q]
end P7
