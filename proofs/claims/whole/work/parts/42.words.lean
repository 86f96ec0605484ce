/-! sums of words, NEG, LDI -/
section P12
variable {g : Int32 × Int32 × Int32} {σ τ : cb_S}
theorem c_hlF (σ : cb_S) (x y F : Int32) : cb_up (cb_up (cb_up σ 12 4 x) 12 5 y) 12 6 F = cb_up (cb_up (cb_up σ 12 6 F) 12 4 x) 12 5 y := by
  rw [cb_up_cm _ 12 y F (by decide), cb_up_cm _ 12 x F (by decide)]
theorem sg_16 {R : Nat} (h : R < 65536) : (if ((nI R >>> (((16 : Int32) - 1) &&& 31)) &&& 1) = 1 then (1 : Int32) else 0) = nI (R / 32768) := by
  rw [show (((16 : Int32) - 1) &&& 31) = (nI 15 &&& 31) from rfl, shr_k (by omega) (by omega), and1 (by omega), show R / 2 ^ 15 % 2 = R / 32768 by omega]
  rcases (show R / 32768 = 0 ∨ R / 32768 = 1 by omega) with e | e <;> rw [e] <;> rfl
/-- HL gets a word, F its flags: in either order -/
theorem s_hlF (h : cb_R g σ τ) {τ1 : cb_S} (hR : ∀ σ, cb_R g σ τ → cb_R g σ τ1) {f : Nat} (hf : f < 256) (hk : okF f = true) (v : Int32) :
    ∃ τ2, m_putPair (cb_up τ1 2 6 (nI f)) 4 v = some τ2 ∧ cb_R g (cb_up (cb_up (cb_up σ 12 4 (v >>> ((8 : Int32) &&& 31) &&& 255)) 12 5 (v &&& 255)) 12 6 (nI f)) τ2 := by
  obtain ⟨σ2, τ2, e1, e2, h2⟩ := s_putPair (ps_F (hR σ h) hf hk) (k := 2) (by omega) v
  refine ⟨τ2, e2, ?_⟩
  rw [c_hlF]
  have e3 : c_Bank_putPair 11 (cb_up σ 12 6 (nI f)) (nI 2) v = some (cb_up (cb_up (cb_up σ 12 6 (nI f)) 12 4 (v >>> ((8 : Int32) &&& 31) &&& 255)) 12 5 (v &&& 255)) := rfl
  rw [e3] at e1
  rw [Option.some.inj e1]
  exact h2
/-- ADD HL -/
theorem s_wsum (h : cb_R g σ τ) {N : Nat} (hN : 16 < N) {a b : Nat} (ha : a < 65536) (hb : b < 65536) (hp : m_pair τ 4 = some (nI a)) :
    cb_Sv (cb_bo (c_Flags_addWords (nI a) (nI b) 0) fun c4 => cb_bo (c_Bank_putPair 11 σ 2 (c4 >>> ((8 : Int32) &&& 31))) fun σ5 => cb_bo (c_Processor_changeFlags σ5 19 c4) fun σ6 => some σ6) (m_wideSum N τ (nI b)) (cb_R g) := by
  obtain ⟨a0, f, -, hf, hk, -, -, F1, F2⟩ := pAF h
  have hc : (0 : Nat) ≤ 1 := by omega
  have hlt : aS a b 0 16 < 65536 := aS_lt a b 0 16
  have c12 := aC_le (a := a) (b := b) hc 12
  have c16 := aC_le (a := a) (b := b) hc 16
  have ec : c_Flags_addWords (nI a) (nI b) 0 = _ := c_add_16 ha hb hc
  have ea : m_add N τ (nI a) (nI b) 0 16 = some (nI (aS a b 0 16), cb_up (cb_up (cb_up τ 0 9 (nI (aC a b 0 12))) 0 10 (nI (aC a b 0 15))) 0 11 (nI (aC a b 0 16))) := m_add_c (τ := τ) (n := 16) (c := 0) (by omega) ha hb hc (Or.inr rfl)
  have hfl := fl_lt (t16_le hlt) (zf_le (aS a b 0 16)) c12 (m2_le (aC a b 0 15 + aC a b 0 16)) (Nat.zero_le 1) c16
  have F3 : (nI f &&& ((19 : Int32) ^^^ (-1))) ||| (nI (fl (aS a b 0 16 / 32768) (zf (aS a b 0 16)) (aC a b 0 12) ((aC a b 0 15 + aC a b 0 16) % 2) 0 (aC a b 0 16)) &&& 19) = sf (sf (sf (nI f) 16 (nI (aC a b 0 12))) 2 (nI 0)) 1 (nI (aC a b 0 16)) := fl_19 f hf hk _ (le_2 (t16_le hlt)) _ (le_2 (zf_le _)) _ (le_2 c12) _ (lt_2 _) 0 (by omega) _ (le_2 c16)
  have F4 := fl_sf3 f hf hk _ (le_2 c12) 0 (by omega) _ (le_2 c16)
  have k1 : f / 128 ≤ 1 := by omega
  have k2 : f / 64 % 2 ≤ 1 := m2_le _
  have k3 : f / 4 % 2 ≤ 1 := m2_le _
  have hfl2 := fl_lt k1 k2 c12 k3 (Nat.zero_le 1) c16
  have hok2 := fl_ok _ (le_2 k1) _ (le_2 k2) _ (le_2 c12) _ (le_2 k3) 0 (by omega) _ (le_2 c16)
  generalize hT1 : cb_up (cb_up (cb_up τ 0 9 (nI (aC a b 0 12))) 0 10 (nI (aC a b 0 15))) 0 11 (nI (aC a b 0 16)) = τ1 at ea
  have e9 : τ1 0 9 = nI (aC a b 0 12) := by rw [← hT1]; rfl
  have e11 : τ1 0 11 = nI (aC a b 0 16) := by rw [← hT1]; rfl
  have e6 : τ1 2 6 = nI f := by rw [← hT1, ← F2]; rfl
  have hR : ∀ σ, cb_R g σ τ → cb_R g σ τ1 := fun σ q => by rw [← hT1]; exact q
  obtain ⟨τ2, e2, h2⟩ := s_hlF h hR hfl2 hok2 (nI (aS a b 0 16))
  have em : m_wideSum N τ (nI b) = some τ2 := by
    unfold m_wideSum
    rw [cb_bo_e hp, cb_b2_e ea, cb_bo_e (m_sf _ _ _), cb_bo_e (m_sf _ _ _), cb_bo_e (m_sf _ _ _), cb_up_up, cb_up_up]
    show (cb_bo (m_putPair (cb_up τ1 2 6 (sf (sf (sf (τ1 2 6) 16 (τ1 0 9)) 2 (nI 0)) 1 (τ1 0 11))) 4 (nI (aS a b 0 16))) fun τ => some τ) = _
    rw [e9, e11, e6, F4, cb_bo_e e2]
  refine ⟨_, τ2, ?_, em, h2⟩
  rw [cb_bo_e ec, hi_res hfl (by omega)]
  show some (cb_up (cb_up (cb_up σ 12 4 (nI (aS a b 0 16) >>> ((8 : Int32) &&& 31) &&& 255)) 12 5 (nI (aS a b 0 16) &&& 255)) 12 6 ((σ 12 6 &&& ((19 : Int32) ^^^ (-1))) ||| (nI (aS a b 0 16 * 256 + fl (aS a b 0 16 / 32768) (zf (aS a b 0 16)) (aC a b 0 12) ((aC a b 0 15 + aC a b 0 16) % 2) 0 (aC a b 0 16)) &&& 19))) = _
  rw [F1, low_and hfl (by decide +kernel), F3, F4]
/-- ADC HL, SBC HL: the end of both -/
theorem s_wc {N : Nat} (h : cb_R g σ τ) {f R s z hh p n c : Nat} (hf : f < 256) (hk : okF f = true) (F1 : σ 12 6 = nI f) (hlt : R < 65536) (es : s = R / 32768) (ez : z = zf R) (h3 : hh ≤ 1) (h4 : p ≤ 1) (h5 : n ≤ 1) (h6 : c ≤ 1) {τ1 : cb_S} (hR : ∀ σ, cb_R g σ τ → cb_R g σ τ1) (e6 : τ1 2 6 = nI f) (e9 : τ1 0 9 = nI hh) (ep : (if τ1 0 10 = (if nI n = 0 then τ1 0 11 else (if τ1 0 11 = 0 then 1 else 0)) then (0 : Int32) else 1) = nI p) (e11 : τ1 0 11 = nI c) :
    cb_Sm (cb_bo (c_Bank_putPair 11 σ 2 (nI (R * 256 + fl s z hh p n c) >>> ((8 : Int32) &&& 31))) fun σ5 => cb_bo (c_Processor_changeFlags σ5 215 (nI (R * 256 + fl s z hh p n c))) fun σ6 => some ((15 : Int32), σ6)) (m_extended_L110 N τ1 (nI n) (nI R)) (cb_P g) := by
  have h1 : s ≤ 1 := by rw [es]; exact t16_le hlt
  have h2 : z ≤ 1 := by rw [ez]; exact zf_le R
  have hfl := fl_lt h1 h2 h3 h4 h5 h6
  have hok := fl_ok _ (le_2 h1) _ (le_2 h2) _ (le_2 h3) _ (le_2 h4) _ (le_2 h5) _ (le_2 h6)
  obtain ⟨τ2, e2, k2⟩ := s_hlF h hR hfl hok (nI R)
  refine ⟨15, _, τ2, ?_, ?_, ck_n 15 (by omega), k2⟩
  · rw [hi_res hfl hlt]
    show some ((15 : Int32), cb_up (cb_up (cb_up σ 12 4 (nI R >>> ((8 : Int32) &&& 31) &&& 255)) 12 5 (nI R &&& 255)) 12 6 ((σ 12 6 &&& ((215 : Int32) ^^^ (-1))) ||| (nI (R * 256 + fl s z hh p n c) &&& 215))) = _
    rw [F1, low_and hfl (by decide +kernel), fl_215 f hf hk _ (le_2 h1) _ (le_2 h2) _ (le_2 h3) _ (le_2 h4) _ (le_2 h5) _ (le_2 h6)]
  · unfold m_extended_L110
    rw [cb_bo_e (m_sum_c _ _ _ _), cb_bo_e (m_sf _ _ _), cb_up_up]
    show (cb_bo (m_putPair (cb_up τ1 2 6 (sf (sf (sf (sf (sf (sf (τ1 2 6) 128 (if ((nI R >>> (((16 : Int32) - 1) &&& 31)) &&& 1) = 1 then 1 else 0)) 64 (if nI R = 0 then 1 else 0)) 16 (τ1 0 9)) 4 (if τ1 0 10 = (if nI n = 0 then τ1 0 11 else (if τ1 0 11 = 0 then 1 else 0)) then 0 else 1)) 2 (nI n)) 1 (τ1 0 11))) 4 (nI R)) fun τ => some ((15 : Int32), τ)) = _
    rw [ep, e9, e11, e6, sg_16 hlt, ze_8 hlt, ← es, ← ez, fl_all f hf hk _ (le_2 h1) _ (le_2 h2) _ (le_2 h3) _ (le_2 h4) _ (le_2 h5) _ (le_2 h6), cb_bo_e e2]
end P12
