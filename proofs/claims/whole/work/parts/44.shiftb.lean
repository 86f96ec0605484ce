/-! shifts and bits, both sides -/
section P15
variable {g : Int32 × Int32 × Int32} {σ τ : cb_S}
theorem k128 {f : Nat} (h : f < 256) : f / 128 ≤ 1 := by omega
/-- RLCA, RRCA, RLA, RRA -/
theorem s_rot (h : cb_R g σ τ) {y : Nat} (hy : y < 4) : cb_Sm (cb_bo (c_Flags_shift (nI y) (σ 12 7) (σ 12 6 &&& 1)) fun c4 => cb_let (cb_up σ 12 7 (c4 >>> ((8 : Int32) &&& 31))) fun σ5 => cb_bo (c_Processor_changeFlags σ5 19 c4) fun σ7 => some ((4 : Int32), σ7)) (cb_b2 (m_move τ (nI y) (τ 2 7)) fun c16 τ16 => cb_let (cb_up τ16 2 7 c16) fun τ17 => some ((4 : Int32), τ17)) (cb_P g) := by
  obtain ⟨a, f, ha, hf, hk, A1, A2, F1, F2⟩ := pAF h
  have hy8 : y < 8 := by omega
  obtain ⟨t1, t2⟩ := sh_t1 y hy8 a ha (f % 2) (lt_2 f)
  obtain ⟨t3, t4⟩ := sh_t2 y hy8 a ha
  have t5 := sh_t3 y hy8 (by omega) a ha (f % 2) (lt_2 f)
  have hev := (ev_m (dN y a (f % 2)) t2).2
  have h1 := t8_le t2
  have hz := zf_le (dN y a (f % 2))
  have hfl := fl_lt h1 hz (Nat.zero_le 1) (Nat.le_of_lt_succ hev) (Nat.zero_le 1) (Nat.le_of_lt_succ t4)
  have hfl2 := fl_lt (k128 hf) (m2_le (f / 64)) (Nat.zero_le 1) (m2_le (f / 4)) (Nat.zero_le 1) (Nat.le_of_lt_succ t4)
  have hok2 := fl_ok _ (le_2 (k128 hf)) _ (lt_2 (f / 64)) 0 (by omega) _ (lt_2 (f / 4)) 0 (by omega) _ t4
  rw [A1, A2, F1, cf1 f hf, cb_bo_e t5, cb_b2_e (m_mv _ _ _), F2, cf1 f hf, t1, t3, sf_mv f hf hk _ t4, hi_res hfl (by omega)]
  have ec : (cb_let (cb_up σ 12 7 (nI (dN y a (f % 2)))) fun σ5 => cb_bo (c_Processor_changeFlags σ5 19 (nI (dN y a (f % 2) * 256 + fl (dN y a (f % 2) / 128) (zf (dN y a (f % 2))) 0 (ev (dN y a (f % 2))) 0 (gN y a)))) fun σ7 => some ((4 : Int32), σ7)) = some ((4 : Int32), cb_up (cb_up σ 12 7 (nI (dN y a (f % 2)))) 12 6 (nI (fl (f / 128) (f / 64 % 2) 0 (f / 4 % 2) 0 (gN y a)))) := by
    show some ((4 : Int32), cb_up (cb_up σ 12 7 (nI (dN y a (f % 2)))) 12 6 ((σ 12 6 &&& ((19 : Int32) ^^^ (-1))) ||| (nI (dN y a (f % 2) * 256 + fl (dN y a (f % 2) / 128) (zf (dN y a (f % 2))) 0 (ev (dN y a (f % 2))) 0 (gN y a)) &&& 19))) = _
    rw [F1, low_and hfl (by decide +kernel), sf_19 f hf hk _ (le_2 h1) _ (le_2 hz) _ hev _ t4]
  rw [ec, cb_let_e]
  refine ⟨4, _, _, rfl, rfl, ck_n 4 (by omega), ?_⟩
  rw [cb_up_cm τ 2 _ _ (by decide)]
  exact ps_AF h t2 hfl2 hok2
theorem ex_A : ∀ a, a < 256 → nI a ^^^ (255 : Int32) = nI (255 - a) := by decide +kernel
theorem cpl_F : ∀ f, f < 256 → okF f = true → (nI f &&& ((18 : Int32) ^^^ (-1))) ||| ((18 : Int32) &&& 18) = sf (sf (nI f) 16 1) 2 1 ∧ sf (sf (nI f) 16 1) 2 1 = nI (fl (f / 128) (f / 64 % 2) 1 (f / 4 % 2) 1 (f % 2)) := by decide +kernel
theorem scf_F : ∀ f, f < 256 → okF f = true → (nI f &&& ((19 : Int32) ^^^ (-1))) ||| ((1 : Int32) &&& 19) = nI (fl (f / 128) (f / 64 % 2) 0 (f / 4 % 2) 0 1) ∧ sf (sf (sf (nI f) 16 0) 2 0) 1 1 = nI (fl (f / 128) (f / 64 % 2) 0 (f / 4 % 2) 0 1) := by decide +kernel
theorem ccf_F : ∀ f, f < 256 → okF f = true → (nI f &&& ((19 : Int32) ^^^ (-1))) ||| ((if nI (f % 2) = 0 then (1 : Int32) else 16) &&& 19) = nI (fl (f / 128) (f / 64 % 2) (f % 2) (f / 4 % 2) 0 (1 - f % 2)) ∧ sf (sf (sf (nI f) 16 (if nI (f % 2) = 0 then 0 else 1)) 2 0) 1 (if nI (f % 2) = 0 then 1 else 0) = nI (fl (f / 128) (f / 64 % 2) (f % 2) (f / 4 % 2) 0 (1 - f % 2)) := by decide +kernel
theorem s_single (h : cb_R g σ τ) {y : Nat} (hy : y < 8) : cb_Sm (c_Processor_onA σ (nI y)) (m_single τ (nI y)) (cb_P g) := by
  obtain ⟨a, f, ha, hf, hk, A1, A2, F1, F2⟩ := pAF h
  have k1 := k128 hf
  have mf := m_fl1 hf F2
  rcases cb_lt8 hy with rfl | rfl | rfl | rfl | rfl | rfl | rfl | rfl
  · exact s_rot h (y := 0) (by omega)
  · exact s_rot h (y := 1) (by omega)
  · exact s_rot h (y := 2) (by omega)
  · exact s_rot h (y := 3) (by omega)
  · exact ⟨0, σ, τ, rfl, rfl, ck_n 0 (by omega), h⟩
  · obtain ⟨q1, q2⟩ := cpl_F f hf hk
    refine ⟨4, cb_up (cb_up σ 12 7 (nI (255 - a))) 12 6 (nI (fl (f / 128) (f / 64 % 2) 1 (f / 4 % 2) 1 (f % 2))), cb_up (cb_up τ 2 7 (nI (255 - a))) 2 6 (nI (fl (f / 128) (f / 64 % 2) 1 (f / 4 % 2) 1 (f % 2))), ?_, ?_, ck_n 4 (by omega), ps_AF h (by omega) (fl_lt k1 (m2_le _) (Nat.le_refl 1) (m2_le _) (Nat.le_refl 1) (m2_le _)) (fl_ok _ (le_2 k1) _ (lt_2 _) 1 (by omega) _ (lt_2 _) 1 (by omega) _ (lt_2 _))⟩
    · show some ((4 : Int32), cb_up (cb_up σ 12 7 (σ 12 7 ^^^ 255)) 12 6 ((σ 12 6 &&& ((18 : Int32) ^^^ (-1))) ||| ((18 : Int32) &&& 18))) = _
      rw [A1, F1, ex_A a ha, q1, q2]
    · show some ((4 : Int32), cb_up (cb_up (cb_up τ 2 7 (τ 2 7 ^^^ 255)) 2 6 (sf (τ 2 6) 16 1)) 2 6 (sf (sf (τ 2 6) 16 1) 2 1)) = _
      rw [A2, F2, ex_A a ha, cb_up_up, q2]
  · obtain ⟨q1, q2⟩ := scf_F f hf hk
    refine ⟨4, cb_up σ 12 6 (nI (fl (f / 128) (f / 64 % 2) 0 (f / 4 % 2) 0 1)), cb_up τ 2 6 (nI (fl (f / 128) (f / 64 % 2) 0 (f / 4 % 2) 0 1)), ?_, ?_, ck_n 4 (by omega), ps_F h (fl_lt k1 (m2_le _) (Nat.zero_le 1) (m2_le _) (Nat.zero_le 1) (Nat.le_refl 1)) (fl_ok _ (le_2 k1) _ (lt_2 _) 0 (by omega) _ (lt_2 _) 0 (by omega) 1 (by omega))⟩
    · show some ((4 : Int32), cb_up σ 12 6 ((σ 12 6 &&& ((19 : Int32) ^^^ (-1))) ||| ((1 : Int32) &&& 19))) = _
      rw [F1, q1]
    · show (cb_bo (m_flag τ 1) fun c4 => some ((4 : Int32), cb_up (cb_up (cb_up τ 2 6 (sf (τ 2 6) 16 0)) 2 6 (sf (sf (τ 2 6) 16 0) 2 0)) 2 6 (sf (sf (sf (τ 2 6) 16 0) 2 0) 1 1))) = _
      rw [cb_bo_e mf, F2, cb_up_up, cb_up_up, q2]
  · obtain ⟨q1, q2⟩ := ccf_F f hf hk
    refine ⟨4, cb_up σ 12 6 (nI (fl (f / 128) (f / 64 % 2) (f % 2) (f / 4 % 2) 0 (1 - f % 2))), cb_up τ 2 6 (nI (fl (f / 128) (f / 64 % 2) (f % 2) (f / 4 % 2) 0 (1 - f % 2))), ?_, ?_, ck_n 4 (by omega), ps_F h (fl_lt k1 (m2_le _) (m2_le _) (m2_le _) (Nat.zero_le 1) (m1_le _)) (fl_ok _ (le_2 k1) _ (lt_2 _) _ (lt_2 _) _ (lt_2 _) 0 (by omega) _ (le_2 (m1_le _)))⟩
    · show some ((4 : Int32), cb_up σ 12 6 ((σ 12 6 &&& ((19 : Int32) ^^^ (-1))) ||| ((if σ 12 6 &&& 1 = 0 then (1 : Int32) else 16) &&& 19))) = _
      rw [F1, cf1 f hf, q1]
    · show (cb_bo (m_flag τ 1) fun c4 => some ((4 : Int32), cb_up (cb_up (cb_up τ 2 6 (sf (τ 2 6) 16 (if c4 = 0 then 0 else 1))) 2 6 (sf (sf (τ 2 6) 16 (if c4 = 0 then 0 else 1)) 2 0)) 2 6 (sf (sf (sf (τ 2 6) 16 (if c4 = 0 then 0 else 1)) 2 0) 1 (if c4 = 0 then 1 else 0)))) = _
      rw [cb_bo_e mf, F2, cb_up_up, cb_up_up, q2]
end P15
