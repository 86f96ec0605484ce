/-! steps by one; sums of words -/
section P11
variable {g : Int32 × Int32 × Int32} {σ τ : cb_S}
theorem cb_up_cj (σ : cb_S) {i j : Nat} (k m : Nat) (x y : Int32) (h : i ≠ j) : cb_up (cb_up σ i k x) j m y = cb_up (cb_up σ j m y) i k x := by
  funext n
  by_cases h1 : n = i
  · subst h1
    rw [cb_up_ne _ _ _ h, cb_up_eq, cb_up_eq, cb_up_ne _ _ _ h]
  · by_cases h2 : n = j
    · subst h2
      rw [cb_up_eq, cb_up_ne _ _ _ h1, cb_up_ne _ _ _ h1, cb_up_eq]
    · rw [cb_up_ne _ _ _ h2, cb_up_ne _ _ _ h1, cb_up_ne _ _ _ h1, cb_up_ne _ _ _ h2]
/-- what a write does, and that F may be set before it or behind it -/
theorem c_write_F (σ : cb_S) (F v : Int32) {y : Nat} (hy : y < 8) {σ2 : cb_S} (e : c_Processor_write (cb_up σ 12 6 F) (nI y) v = some σ2) : ∃ σ1, c_Processor_write σ (nI y) v = some σ1 ∧ σ1 12 6 = σ 12 6 ∧ cb_up σ1 12 6 F = σ2 := by
  have reg : ∀ k, k ≠ 6 → c_Processor_write σ (nI y) v = some (cb_up σ 12 k v) → c_Processor_write (cb_up σ 12 6 F) (nI y) v = some (cb_up (cb_up σ 12 6 F) 12 k v) → ∃ σ1, c_Processor_write σ (nI y) v = some σ1 ∧ σ1 12 6 = σ 12 6 ∧ cb_up σ1 12 6 F = σ2 := by
    intro k hk e1 e2
    refine ⟨_, e1, ?_, ?_⟩
    · show upd (σ 12) k v 6 = σ 12 6
      exact pu_ne _ _ (Ne.symm hk)
    · rw [e2] at e
      rw [← Option.some.inj e]
      exact cb_up_cm σ 12 v F hk
  rcases cb_lt8 hy with rfl | rfl | rfl | rfl | rfl | rfl | rfl | rfl
  · exact reg 0 (by decide) rfl rfl
  · exact reg 1 (by decide) rfl rfl
  · exact reg 2 (by decide) rfl rfl
  · exact reg 3 (by decide) rfl rfl
  · exact reg 4 (by decide) rfl rfl
  · exact reg 5 (by decide) rfl rfl
  · refine ⟨_, rfl, rfl, ?_⟩
    rw [← Option.some.inj e]
    exact cb_up_cj σ _ _ _ _ (by decide)
  · exact reg 7 (by decide) rfl rfl
theorem m_step_c {N x f dn : Nat} (hN : 16 < N) (hx : x < 256) (hd : dn ≤ 1) (hF : τ 2 6 = nI f) (hf : f < 256) (hk : okF f = true) {B W : Nat} (eB : B = if dn = 0 then 1 else 254) (eW : W = dn) :
    ∃ τ1 : cb_S, m_step N τ (nI x) (nI dn) = some (nI (aS x B W 8), cb_up τ1 2 6 (nI (fl (aS x B W 8 / 128) (zf (aS x B W 8)) (if dn = 0 then aC x B W 4 else 1 - aC x B W 4) ((aC x B W 7 + aC x B W 8) % 2) dn (f % 2)))) ∧ (∀ σ, cb_R g σ τ → cb_R g σ τ1) := by
  have hlt : aS x B W 8 < 256 := aS_lt x B W 8
  have hW : W ≤ 1 := by omega
  have c4 := aC_le (a := x) (b := B) hW 4
  have c7 := aC_le (a := x) (b := B) hW 7
  have c8 := aC_le (a := x) (b := B) hW 8
  rcases (show dn = 0 ∨ dn = 1 by omega) with rfl | rfl
  · rw [if_pos rfl] at eB
    subst eB; subst eW
    refine ⟨cb_up (cb_up (cb_up τ 0 9 (nI (aC x 1 0 4))) 0 10 (nI (aC x 1 0 7))) 0 11 (nI (aC x 1 0 8)), ?_, fun σ h => h⟩
    have ea : m_add N τ (nI x) 1 0 8 = some (nI (aS x 1 0 8), cb_up (cb_up (cb_up τ 0 9 (nI (aC x 1 0 4))) 0 10 (nI (aC x 1 0 7))) 0 11 (nI (aC x 1 0 8))) := m_add_c (τ := τ) (n := 8) (b := 1) (c := 0) (by omega) (by omega) (by omega) (by omega) (Or.inl rfl)
    generalize hT1 : cb_up (cb_up (cb_up τ 0 9 (nI (aC x 1 0 4))) 0 10 (nI (aC x 1 0 7))) 0 11 (nI (aC x 1 0 8)) = τ1 at ea ⊢
    have e9 : τ1 0 9 = nI (aC x 1 0 4) := by rw [← hT1]; rfl
    have e10 : τ1 0 10 = nI (aC x 1 0 7) := by rw [← hT1]; rfl
    have e11 : τ1 0 11 = nI (aC x 1 0 8) := by rw [← hT1]; rfl
    have e6 : τ1 2 6 = nI f := by rw [← hT1, ← hF]; rfl
    have F5 : sf (sf (sf (sf (sf (τ1 2 6) 128 (if ((nI (aS x 1 0 8) >>> (((8 : Int32) - 1) &&& 31)) &&& 1) = 1 then 1 else 0)) 64 (if nI (aS x 1 0 8) = 0 then 1 else 0)) 16 (τ1 0 9)) 4 (if τ1 0 10 = τ1 0 11 then 0 else 1)) 2 (nI 0) = nI (fl (aS x 1 0 8 / 128) (zf (aS x 1 0 8)) (aC x 1 0 4) ((aC x 1 0 7 + aC x 1 0 8) % 2) 0 (f % 2)) := by
      rw [e9, e10, e11, e6, sg_8 _ hlt, ze_8 (by omega), ov_m _ (le_2 c7) _ (le_2 c8)]
      exact fl_sf f hf hk _ (le_2 (t8_le hlt)) _ (le_2 (zf_le _)) _ (le_2 c4) _ (lt_2 _) 0 (by omega)
    have st : m_step N τ (nI x) (nI 0) = cb_b2 (m_add N τ (nI x) 1 0 8) fun c3 σc3 => m_step_L25 N (nI x) (nI 0) σc3 c3 := rfl
    rw [st, cb_b2_e ea]
    unfold m_step_L25
    rw [cb_bo_e (m_sum_c _ _ _ _), if_pos rfl, ← F5]
    rfl
  · rw [if_neg (by decide)] at eB
    subst eB; subst eW
    refine ⟨cb_up (cb_up (cb_up (cb_up (cb_up τ 0 9 (nI (aC x 254 1 4))) 0 10 (nI (aC x 254 1 7))) 0 11 (nI (aC x 254 1 8))) 0 9 (nI (1 - aC x 254 1 4))) 0 11 (nI (1 - aC x 254 1 8)), ?_, fun σ h => h⟩
    have ea : m_subtract N τ (nI x) 1 0 8 = some (nI (aS x 254 1 8), cb_up (cb_up (cb_up (cb_up (cb_up τ 0 9 (nI (aC x 254 1 4))) 0 10 (nI (aC x 254 1 7))) 0 11 (nI (aC x 254 1 8))) 0 9 (nI (1 - aC x 254 1 4))) 0 11 (nI (1 - aC x 254 1 8))) := m_sub_c (τ := τ) (n := 8) (b := 1) (w := 0) (by omega) (show x < 2 ^ 8 from hx) (by decide) (by omega) (Or.inl rfl) (B := 254) (W := 1) rfl rfl
    generalize hT1 : cb_up (cb_up (cb_up (cb_up (cb_up τ 0 9 (nI (aC x 254 1 4))) 0 10 (nI (aC x 254 1 7))) 0 11 (nI (aC x 254 1 8))) 0 9 (nI (1 - aC x 254 1 4))) 0 11 (nI (1 - aC x 254 1 8)) = τ1 at ea ⊢
    have e9 : τ1 0 9 = nI (1 - aC x 254 1 4) := by rw [← hT1]; rfl
    have e10 : τ1 0 10 = nI (aC x 254 1 7) := by rw [← hT1]; rfl
    have e11 : τ1 0 11 = nI (1 - aC x 254 1 8) := by rw [← hT1]; rfl
    have e6 : τ1 2 6 = nI f := by rw [← hT1, ← hF]; rfl
    have F5 : sf (sf (sf (sf (sf (τ1 2 6) 128 (if ((nI (aS x 254 1 8) >>> (((8 : Int32) - 1) &&& 31)) &&& 1) = 1 then 1 else 0)) 64 (if nI (aS x 254 1 8) = 0 then 1 else 0)) 16 (τ1 0 9)) 4 (if τ1 0 10 = (if τ1 0 11 = 0 then 1 else 0) then 0 else 1)) 2 (nI 1) = nI (fl (aS x 254 1 8 / 128) (zf (aS x 254 1 8)) (1 - aC x 254 1 4) ((aC x 254 1 7 + aC x 254 1 8) % 2) 1 (f % 2)) := by
      rw [e9, e10, e11, e6, sg_8 _ hlt, ze_8 (by omega), ov_s _ (le_2 c7) _ (le_2 c8)]
      exact fl_sf f hf hk _ (le_2 (t8_le hlt)) _ (le_2 (zf_le _)) _ (le_2 (m1_le _)) _ (lt_2 _) 1 (by omega)
    have st : m_step N τ (nI x) (nI 1) = cb_b2 (m_subtract N τ (nI x) 1 0 8) fun c3 σc3 => m_step_L25 N (nI x) (nI 1) σc3 c3 := rfl
    rw [st, cb_b2_e ea]
    unfold m_step_L25
    rw [cb_bo_e (m_sum_c _ _ _ _), if_neg (show ¬ (1 : Nat) = 0 by decide), ← F5]
    rfl
theorem c_214 {f s z hh p n c : Nat} (hf : f < 256) (hk : okF f = true) (h1 : s ≤ 1) (h2 : z ≤ 1) (h3 : hh ≤ 1) (h4 : p ≤ 1) (h5 : n ≤ 1) (h6 : c ≤ 1) : (nI f &&& ((214 : Int32) ^^^ (-1))) ||| (nI (fl s z hh p n c) &&& 214) = nI (fl s z hh p n (f % 2)) := by
  rw [fl_214 f hf hk s (le_2 h1) z (le_2 h2) hh (le_2 h3) p (le_2 h4) n (le_2 h5) c (le_2 h6), fl_sf f hf hk s (le_2 h1) z (le_2 h2) hh (le_2 h3) p (le_2 h4) n (le_2 h5)]
/-- INC, DEC: from the value read on -/
theorem s_step (h : cb_R g σ τ) {N : Nat} (hN : 16 < N) {y x dn : Nat} (hy : y < 8) (hx : x < 256) (hd : dn ≤ 1) {res : Int32} (er : (if dn = 0 then c_Flags_add (nI x) (nI 1) (nI 0) else c_Flags_subtract (nI x) (nI 1) (nI 0)) = some res) :
    cb_Sm (c_Processor_step σ (nI y) res) (cb_b2 (m_step N τ (nI x) (nI dn)) fun c4 τ4 => cb_bo (m_put τ4 (nI y) c4) fun τ5 => some ((if nI y = (6 : Int32) then (11 : Int32) else (4 : Int32)), τ5)) (cb_P g) := by
  obtain ⟨a, f, ha, hf, hk, A1, A2, F1, F2⟩ := pAF h
  obtain ⟨B, eB⟩ : ∃ B, (if dn = 0 then 1 else 254) = B := ⟨_, rfl⟩
  obtain ⟨W, eW⟩ : ∃ W, dn = W := ⟨_, rfl⟩
  obtain ⟨τ1, e1, hR⟩ := m_step_c (g := g) (N := N) hN hx hd F2 hf hk (B := B) (W := W) eB.symm eW.symm
  have hW : W ≤ 1 := by omega
  have hlt : aS x B W 8 < 256 := aS_lt x B W 8
  have c4 := aC_le (a := x) (b := B) hW 4
  have c8 := aC_le (a := x) (b := B) hW 8
  have hh1 : (if dn = 0 then aC x B W 4 else 1 - aC x B W 4) ≤ 1 := by split; exact c4; exact m1_le _
  obtain ⟨cc, hcc, er2⟩ : ∃ cc, cc ≤ 1 ∧ res = nI (aS x B W 8 * 256 + fl (aS x B W 8 / 128) (zf (aS x B W 8)) (if dn = 0 then aC x B W 4 else 1 - aC x B W 4) ((aC x B W 7 + aC x B W 8) % 2) dn cc) := by
    rcases (show dn = 0 ∨ dn = 1 by omega) with rfl | rfl
    · rw [if_pos rfl, c_add_8 hx (by omega) (by omega)] at er
      rw [if_pos rfl] at eB
      subst eB; subst eW
      exact ⟨aC x 1 0 8, c8, (Option.some.inj er).symm⟩
    · rw [if_neg (by decide), c_sub_8 hx (show 1 < 256 by omega) (show 0 ≤ 1 by omega) (B := 254) (W := 1) rfl rfl] at er
      rw [if_neg (by decide)] at eB
      subst eB; subst eW
      exact ⟨1 - aC x 254 1 8, m1_le _, (Option.some.inj er).symm⟩
  have hfl := fl_lt (t8_le hlt) (zf_le (aS x B W 8)) hh1 (m2_le (aC x B W 7 + aC x B W 8)) hd hcc
  have hfl2 := fl_lt (t8_le hlt) (zf_le (aS x B W 8)) hh1 (m2_le (aC x B W 7 + aC x B W 8)) hd (m2_le f)
  have hok := fl_ok _ (le_2 (t8_le hlt)) _ (le_2 (zf_le (aS x B W 8))) _ (le_2 hh1) _ (lt_2 (aC x B W 7 + aC x B W 8)) _ (le_2 hd) _ (lt_2 f)
  have hc := c_214 (f := f) hf hk (t8_le hlt) (zf_le (aS x B W 8)) hh1 (m2_le (aC x B W 7 + aC x B W 8)) hd hcc
  generalize (if dn = 0 then aC x B W 4 else 1 - aC x B W 4) = hh at *
  generalize (aC x B W 7 + aC x B W 8) % 2 = p at *
  generalize aS x B W 8 = R at *
  rw [cb_b2_e e1, er2]
  unfold c_Processor_step
  rw [hi_res hfl (by omega)]
  obtain ⟨σ2, τ2, w1, w2, h2⟩ := s_write (ps_F (hR σ h) hfl2 hok) hy (by_lt hlt)
  obtain ⟨σ1, k1, k2, k3⟩ := c_write_F σ _ _ hy w1
  rw [cb_bo_e k1, cb_bo_e (c_cf _ _ _), cb_bo_e w2, k2, F1, low_and hfl (by decide +kernel), hc, k3]
  exact ⟨_, σ2, τ2, rfl, rfl, ck_i (ck_n 11 (by omega)) (ck_n 4 (by omega)), h2⟩
end P11
