/-! the codes behind CB, both sides -/
section P16
variable {g : Int32 × Int32 × Int32} {σ τ : cb_S}
theorem m_sh {r f : Nat} (hr : r < 256) (hf : f < 256) (hk : okF f = true) (F2 : τ 2 6 = nI f) : m_shown τ (nI r) = some (cb_up τ 2 6 (nI (fl (r / 128) (zf r) (f / 16 % 2) (ev r) (f / 2 % 2) (f % 2)))) := by
  unfold m_shown
  rw [cb_bo_e (m_sf _ _ _), cb_bo_e (m_sf _ _ _), cb_bo_e (ev_m r hr).1, cb_bo_e (m_sf _ _ _), cb_up_up, cb_up_up]
  show some (cb_up τ 2 6 (sf (sf (sf (τ 2 6) 128 (if nI r ≤ (127 : Int32) then (0 : Int32) else 1)) 64 (if nI r = 0 then 1 else 0)) 4 (nI (ev r)))) = _
  rw [F2, s127 r hr, ze_8 (by omega), sf_shown f hf hk _ (le_2 (t8_le hr)) _ (le_2 (zf_le _)) _ (ev_m r hr).2]
/-- a shift of a register or of M -/
theorem s_shq (h : cb_R g σ τ) {o q x : Nat} (ho : o < 8) (h6 : ¬ o = 6) (hq : q < 8) (hx : x < 256) : cb_Sv (cb_bo (c_Flags_shift (nI o) (nI x) (σ 12 6 &&& 1)) fun c9 => cb_bo (c_Processor_write σ (nI q) (c9 >>> ((8 : Int32) &&& 31))) fun σ10 => cb_bo (c_Processor_changeFlags σ10 215 c9) fun σ11 => some σ11) (cb_b2 (m_move τ (nI o) (nI x)) fun c27 τ27 => cb_bo (m_put τ27 (nI q) c27) fun τ28 => cb_bo (m_shown τ28 c27) fun τ29 => some τ29) (cb_R g) := by
  obtain ⟨a, f, ha, hf, hk, A1, A2, F1, F2⟩ := pAF h
  obtain ⟨t1, t2⟩ := sh_t1 o ho x hx (f % 2) (lt_2 f)
  obtain ⟨t3, t4⟩ := sh_t2 o ho x hx
  have t5 := sh_t3 o ho h6 x hx (f % 2) (lt_2 f)
  generalize dN o x (f % 2) = d at *
  generalize gN o x = c at *
  have hev := (ev_m d t2).2
  have h1 := t8_le t2
  have hz := zf_le d
  have c1 := Nat.le_of_lt_succ t4
  have hfl := fl_lt h1 hz (Nat.zero_le 1) (Nat.le_of_lt_succ hev) (Nat.zero_le 1) c1
  have hok := fl_ok _ (le_2 h1) _ (le_2 hz) 0 (by omega) _ hev 0 (by omega) _ t4
  have hfl2 := fl_lt (k128 hf) (m2_le (f / 64)) (Nat.zero_le 1) (m2_le (f / 4)) (Nat.zero_le 1) c1
  have hok2 := fl_ok _ (le_2 (k128 hf)) _ (lt_2 (f / 64)) 0 (by omega) _ (lt_2 (f / 4)) 0 (by omega) _ t4
  obtain ⟨u1, u2, u3⟩ := fl_d16 _ (le_2 (k128 hf)) _ (lt_2 (f / 64)) _ (lt_2 (f / 4)) _ t4
  obtain ⟨σ2, τ2, w1, w2, h2⟩ := s_write (ps_F h hfl2 hok2) hq (by_lt t2)
  obtain ⟨σ1, k1, k2, k3⟩ := c_write_F σ _ _ hq w1
  have e6 : τ2 2 6 = nI (fl (f / 128) (f / 64 % 2) 0 (f / 4 % 2) 0 c) := by
    rw [← pe_reg h2 (show 6 < 8 by omega), ← k3]
    show upd (σ1 12) 6 _ 6 = _
    exact pu_hit _ _ _
  have es := m_sh t2 hfl2 hok2 e6
  rw [u1, u2, u3] at es
  rw [F1, cf1 f hf, cb_bo_e t5, hi_res hfl (by omega), cb_bo_e k1, cb_bo_e (c_cf _ _ _), k2, F1, low_and hfl (by decide +kernel), fl_215 f hf hk _ (le_2 h1) _ (le_2 hz) 0 (by omega) _ hev 0 (by omega) _ t4, cb_b2_e (m_mv _ _ _), F2, cf1 f hf, t1, t3, sf_mv f hf hk _ t4, cb_bo_e w2, cb_bo_e es]
  refine ⟨_, _, rfl, rfl, ?_⟩
  have h3 := ps_F h2 hfl hok
  rw [← k3, cb_up_up] at h3
  exact h3
/-- the code's parts: n = 64 x + 8 b + q -/
theorem q_7 {n : Nat} (h : n < 256) : nI n &&& 7 = nI (n % 8) := i_mod n 3
theorem q_b {n : Nat} (h : n < 256) : (nI n >>> ((3 : Int32) &&& 31)) &&& 7 = nI (n / 8 % 8) := by
  rw [show ((3 : Int32) &&& 31) = (nI 3 &&& 31) from rfl, shr_k (by omega) (by omega)]
  exact i_mod _ 3
theorem q_x {n : Nat} (h : n < 256) : nI n >>> ((6 : Int32) &&& 31) = nI (n / 64) := shr_k (k := 6) (by omega) (by omega)
theorem m_L186 (n q : Nat) (h : n < 256) (hq : q < 8) : m_bits_L186 τ (nI n) (nI q) = some (nI (if q = 6 then (if n / 64 = 1 then 12 else 15) else 8), τ) := by
  unfold m_bits_L186
  have e1 : (nI q = (6 : Int32)) = (q = 6) := propext (nI_eq (a := q) (b := 6) (by omega) (by omega))
  have e2 : (nI n < (64 : Int32)) = (n < 64) := propext (nI_ltI (a := n) (b := 64) (by omega) (by omega))
  have e3 : ((128 : Int32) ≤ nI n) = (128 ≤ n) := propext (nI_leI (a := 128) (b := n) (by omega) (by omega))
  by_cases h6 : q = 6
  · simp only [e1, e2, e3, h6, if_true]
    by_cases a1 : n < 64
    · rw [if_pos a1, if_neg (show ¬ n / 64 = 1 by omega)]; rfl
    · rw [if_neg a1]
      by_cases a2 : 128 ≤ n
      · rw [if_pos a2, if_neg (show ¬ n / 64 = 1 by omega)]; rfl
      · rw [if_neg a2, if_pos (show n / 64 = 1 by omega)]; rfl
  · simp only [e1, h6, if_false]; rfl
theorem c_q6 {q : Nat} (hq : q < 8) (u w : Nat) : (if nI q = (6 : Int32) then nI u else nI w) = nI (if q = 6 then u else w) := by
  have e1 : (nI q = (6 : Int32)) = (q = 6) := propext (nI_eq (a := q) (b := 6) (by omega) (by omega))
  by_cases h6 : q = 6
  · subst h6; rfl
  · simp only [e1, h6, if_false]
theorem s_bits (h : cb_R g σ τ) : cb_Sm (cb_b2 (c_Processor_nextByte σ) fun c6 σc6 => cb_b2 (c_Processor_bits σc6 c6) fun c7 σc7 => some (c7, σc7)) (m_bits τ) (cb_P g) := by
  unfold m_bits
  refine cb_Sm_b2 (s_next h) fun r σ τ h => ?_
  obtain ⟨⟨n, hn, rfl⟩, h⟩ := h
  unfold c_Processor_bits
  simp only [cb_let_e]
  rw [q_7 hn, q_b hn, q_x hn]
  have hq : n % 8 < 8 := by omega
  have hb : n / 8 % 8 < 8 := by omega
  have hx : n / 64 < 4 := by omega
  have e64 : ((64 : Int32) ≤ nI n) = (64 ≤ n) := propext (nI_leI (a := 64) (b := n) (by omega) (by omega))
  have e128 : ((128 : Int32) ≤ nI n) = (128 ≤ n) := propext (nI_leI (a := 128) (b := n) (by omega) (by omega))
  have e192 : ((192 : Int32) ≤ nI n) = (192 ≤ n) := propext (nI_leI (a := 192) (b := n) (by omega) (by omega))
  have d0 : (nI (n / 64) = 0) = (n / 64 = 0) := propext (nI_eq (a := n / 64) (b := 0) (by omega) (by omega))
  have d1 : (nI (n / 64) = 1) = (n / 64 = 1) := propext (nI_eq (a := n / 64) (b := 1) (by omega) (by omega))
  have d2 : (nI (n / 64) = 2) = (n / 64 = 2) := propext (nI_eq (a := n / 64) (b := 2) (by omega) (by omega))
  have d6 : (nI (n / 8 % 8) = (6 : Int32)) = (n / 8 % 8 = 6) := propext (nI_eq (a := n / 8 % 8) (b := 6) (by omega) (by omega))
  obtain ⟨v, r1, r2, ⟨x, hxx, rfl⟩⟩ := s_read h hq
  rw [cb_bo_e r1, cb_bo_e r2]
  simp only [e64, e128, e192, d0, d1, d2, d6]
  have ck : ∀ m : Nat, m < 32 → cb_ck (nI m) := fun m hm => ⟨m, hm, rfl⟩
  rcases (show n / 64 = 0 ∨ n / 64 = 1 ∨ n / 64 = 2 ∨ n / 64 = 3 by omega) with hx0 | hx1 | hx2 | hx3
  · rw [if_pos hx0, if_neg (show ¬ 64 ≤ n by omega)]
    by_cases h6 : n / 8 % 8 = 6
    · rw [if_pos h6, if_pos h6]
      exact ⟨0, σ, τ, rfl, rfl, ck 0 (by omega), h⟩
    · rw [if_neg h6, if_neg h6]
      obtain ⟨σ1, τ1, a1, a2, k1⟩ := s_shq h hb h6 hq hxx
      refine ⟨nI (if n % 8 = 6 then 15 else 8), σ1, τ1, ?_, ?_, ck _ (by split <;> omega), k1⟩
      · obtain ⟨c9, b1, a1⟩ := cb_bo_o a1
        obtain ⟨σ2, b2, a1⟩ := cb_bo_o a1
        obtain ⟨σ3, b3, a1⟩ := cb_bo_o a1
        rw [cb_bo_e b1, cb_bo_e b2, cb_bo_e b3, Option.some.inj a1]
        show some ((if nI (n % 8) = (6 : Int32) then nI 15 else nI 8), σ1) = _
        rw [c_q6 hq]
      · obtain ⟨c9, τ2, b1, a2⟩ := cb_b2_o a2
        obtain ⟨τ3, b2, a2⟩ := cb_bo_o a2
        obtain ⟨τ4, b3, a2⟩ := cb_bo_o a2
        rw [cb_b2_e b1, cb_bo_e b2, cb_bo_e b3, Option.some.inj a2, m_L186 n _ hn hq, if_neg (show ¬ n / 64 = 1 by omega)]
  · rw [if_neg (show ¬ n / 64 = 0 by omega), if_pos hx1, if_pos (show 64 ≤ n by omega), if_neg (show ¬ 128 ≤ n by omega)]
    obtain ⟨a, f, ha, hf, hk, A1, A2, F1, F2⟩ := pAF h
    have hbn := bN_lt x (n / 8 % 8)
    have hs : (if n / 8 % 8 = 7 then bN x (n / 8 % 8) else 0) ≤ 1 := by split; exact hbn; omega
    have hfl := fl_lt hs (m1_le (bN x (n / 8 % 8))) (Nat.le_refl 1) (m1_le (bN x (n / 8 % 8))) (Nat.zero_le 1) (Nat.zero_le 1)
    have hfl2 := fl_lt hs (m1_le (bN x (n / 8 % 8))) (Nat.le_refl 1) (m1_le (bN x (n / 8 % 8))) (Nat.zero_le 1) (m2_le f)
    have hok := fl_ok _ (le_2 hs) _ (le_2 (m1_le (bN x (n / 8 % 8)))) 1 (by omega) _ (le_2 (m1_le (bN x (n / 8 % 8)))) 0 (by omega) _ (lt_2 f)
    refine ⟨nI (if n % 8 = 6 then 12 else 8), cb_up σ 12 6 (nI (fl (if n / 8 % 8 = 7 then bN x (n / 8 % 8) else 0) (1 - bN x (n / 8 % 8)) 1 (1 - bN x (n / 8 % 8)) 0 (f % 2))), cb_up τ 2 6 (nI (fl (if n / 8 % 8 = 7 then bN x (n / 8 % 8) else 0) (1 - bN x (n / 8 % 8)) 1 (1 - bN x (n / 8 % 8)) 0 (f % 2))), ?_, ?_, ck _ (by split <;> omega), ps_F h hfl2 hok⟩
    · rw [bt_c x hxx _ hb, cb_bo_e (c_cf _ _ _), F1, c_214 hf hk hs (m1_le _) (Nat.le_refl 1) (m1_le _) (Nat.zero_le 1) (Nat.zero_le 1)]
      show some ((if nI (n % 8) = (6 : Int32) then nI 12 else nI 8), _) = _
      rw [c_q6 hq]
    · rw [bt_m x hxx _ hb, bt_n _ (le_2 hbn), bt_7 _ hb _ (le_2 hbn), cb_bo_e (m_sf _ _ _), cb_bo_e (m_sf _ _ _), cb_bo_e (m_sf _ _ _), cb_bo_e (m_sf _ _ _), cb_bo_e (m_sf _ _ _), cb_up_up, cb_up_up, cb_up_up, cb_up_up, m_L186 n _ hn hq, if_pos hx1]
      show some (_, cb_up τ 2 6 (sf (sf (sf (sf (sf (τ 2 6) 64 (nI (1 - bN x (n / 8 % 8)))) 4 (nI (1 - bN x (n / 8 % 8)))) 16 1) 2 0) 128 (nI (if n / 8 % 8 = 7 then bN x (n / 8 % 8) else 0)))) = _
      rw [F2, bt_F f hf hk _ (le_2 hs) _ (le_2 (m1_le _))]
  · rw [if_neg (show ¬ n / 64 = 0 by omega), if_neg (show ¬ n / 64 = 1 by omega), if_pos hx2, if_pos (show 64 ≤ n by omega), if_pos (show 128 ≤ n by omega), if_neg (show ¬ 192 ≤ n by omega)]
    obtain ⟨σ1, τ1, a1, a2, k1⟩ := s_write h hq (in_by (rs_by x hxx _ hb).1)
    refine ⟨nI (if n % 8 = 6 then 15 else 8), σ1, τ1, ?_, ?_, ck _ (by split <;> omega), k1⟩
    · rw [cb_bo_e a1]
      show some ((if nI (n % 8) = (6 : Int32) then nI 15 else nI 8), σ1) = _
      rw [c_q6 hq]
    · rw [cb_bo_e a2, m_L186 n _ hn hq, if_neg (show ¬ n / 64 = 1 by omega)]
  · rw [if_neg (show ¬ n / 64 = 0 by omega), if_neg (show ¬ n / 64 = 1 by omega), if_neg (show ¬ n / 64 = 2 by omega), if_pos (show 64 ≤ n by omega), if_pos (show 128 ≤ n by omega), if_pos (show 192 ≤ n by omega)]
    obtain ⟨σ1, τ1, a1, a2, k1⟩ := s_write h hq (in_by (rs_by x hxx _ hb).2)
    refine ⟨nI (if n % 8 = 6 then 15 else 8), σ1, τ1, ?_, ?_, ck _ (by split <;> omega), k1⟩
    · rw [cb_bo_e a1]
      show some ((if nI (n % 8) = (6 : Int32) then nI 15 else nI 8), σ1) = _
      rw [c_q6 hq]
    · rw [cb_bo_e a2, m_L186 n _ hn hq, if_neg (show ¬ n / 64 = 1 by omega)]
end P16
