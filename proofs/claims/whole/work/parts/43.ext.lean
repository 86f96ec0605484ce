/-! ADC HL, SBC HL, NEG, LDI -/
section P13
variable {g : Int32 × Int32 × Int32} {σ τ : cb_S}
theorem m_fl1 {f : Nat} (hf : f < 256) (F2 : τ 2 6 = nI f) : m_flag τ 1 = some (nI (f % 2)) := by
  unfold m_flag
  rw [F2, cf0 f hf]
theorem s_wcar (h : cb_R g σ τ) {N : Nat} (hN : 16 < N) {v : Int32} {k : Nat} (hk4 : k < 4) (e4 : (v >>> ((4 : Int32) &&& 31)) &&& 3 = nI k) (e8 : ¬ v &&& 8 = 0) :
    cb_Sm (c_Processor_wordsWithCarry σ v) (cb_bo (m_wide τ (nI k)) fun c28 => cb_bo (m_pair τ 4) fun c30 => cb_bo (m_flag τ 1) fun c31 => cb_b2 (m_add N τ c30 c28 c31 16) fun c32 τ32 => m_extended_L110 N τ32 0 c32) (cb_P g) := by
  obtain ⟨a0, f, -, hf, hk, -, -, F1, F2⟩ := pAF h
  obtain ⟨r1, p1, p2, ⟨a, ha, rfl⟩⟩ := s_pair h (k := 2) (by omega)
  obtain ⟨r2, w1, w2, ⟨b, hb, rfl⟩⟩ := s_wide h hk4
  have hc := m2_le f
  have hlt : aS a b (f % 2) 16 < 65536 := aS_lt a b (f % 2) 16
  have c12 := aC_le (a := a) (b := b) hc 12
  have c15 := aC_le (a := a) (b := b) hc 15
  have c16 := aC_le (a := a) (b := b) hc 16
  have p2' : m_pair τ 4 = some (nI a) := p2
  have ea : m_add N τ (nI a) (nI b) (nI (f % 2)) 16 = some (nI (aS a b (f % 2) 16), cb_up (cb_up (cb_up τ 0 9 (nI (aC a b (f % 2) 12))) 0 10 (nI (aC a b (f % 2) 15))) 0 11 (nI (aC a b (f % 2) 16))) := m_add_c (τ := τ) (n := 16) (by omega) ha hb hc (Or.inr rfl)
  rw [cb_bo_e w2, cb_bo_e p2', cb_bo_e (m_fl1 hf F2), cb_b2_e ea]
  have ec : c_Processor_wordsWithCarry σ v = c_Processor_wordsWithCarry_L54 v σ (nI (aS a b (f % 2) 16 * 256 + fl (aS a b (f % 2) 16 / 32768) (zf (aS a b (f % 2) 16)) (aC a b (f % 2) 12) ((aC a b (f % 2) 15 + aC a b (f % 2) 16) % 2) 0 (aC a b (f % 2) 16))) := by
    unfold c_Processor_wordsWithCarry
    have p1' : c_Bank_pair 11 σ 2 = some (nI a) := p1
    rw [cb_bo_e p1', e4, cb_bo_e w1, cb_let_e, if_neg e8, F1, cf1 f hf, cb_bo_e (c_add_16 ha hb hc)]
  rw [ec]
  exact s_wc (n := 0) h hf hk F1 hlt rfl rfl c12 (m2_le _) (Nat.zero_le 1) c16 (fun σ q => q) F2 rfl (ov_m _ (le_2 c15) _ (le_2 c16)) rfl
theorem s_wsbc (h : cb_R g σ τ) {N : Nat} (hN : 16 < N) {v : Int32} {k : Nat} (hk4 : k < 4) (e4 : (v >>> ((4 : Int32) &&& 31)) &&& 3 = nI k) (e8 : v &&& 8 = 0) :
    cb_Sm (c_Processor_wordsWithCarry σ v) (cb_bo (m_wide τ (nI k)) fun c28 => cb_bo (m_pair τ 4) fun c30 => cb_bo (m_flag τ 1) fun c31 => cb_b2 (m_subtract N τ c30 c28 c31 16) fun c32 τ32 => m_extended_L110 N τ32 1 c32) (cb_P g) := by
  obtain ⟨a0, f, -, hf, hk, -, -, F1, F2⟩ := pAF h
  obtain ⟨r1, p1, p2, ⟨a, ha, rfl⟩⟩ := s_pair h (k := 2) (by omega)
  obtain ⟨r2, w1, w2, ⟨b, hb, rfl⟩⟩ := s_wide h hk4
  have hc := m2_le f
  obtain ⟨B, eB⟩ : ∃ B, 65535 - b = B := ⟨_, rfl⟩
  obtain ⟨W, eW⟩ : ∃ W, 1 - f % 2 = W := ⟨_, rfl⟩
  have hW : W ≤ 1 := by rw [← eW]; exact m1_le _
  have hlt : aS a B W 16 < 65536 := aS_lt a B W 16
  have c12 := aC_le (a := a) (b := B) hW 12
  have c15 := aC_le (a := a) (b := B) hW 15
  have c16 := aC_le (a := a) (b := B) hW 16
  have p2' : m_pair τ 4 = some (nI a) := p2
  have ea : m_subtract N τ (nI a) (nI b) (nI (f % 2)) 16 = some (nI (aS a B W 16), cb_up (cb_up (cb_up (cb_up (cb_up τ 0 9 (nI (aC a B W 12))) 0 10 (nI (aC a B W 15))) 0 11 (nI (aC a B W 16))) 0 9 (nI (1 - aC a B W 12))) 0 11 (nI (1 - aC a B W 16))) := m_sub_c (τ := τ) (n := 16) (by omega) (show a < 2 ^ 16 from ha) (show b < 2 ^ 16 from hb) hc (Or.inr rfl) (B := B) (W := W) eB.symm eW.symm
  rw [cb_bo_e w2, cb_bo_e p2', cb_bo_e (m_fl1 hf F2), cb_b2_e ea]
  have ec : c_Processor_wordsWithCarry σ v = c_Processor_wordsWithCarry_L54 v σ (nI (aS a B W 16 * 256 + fl (aS a B W 16 / 32768) (zf (aS a B W 16)) (1 - aC a B W 12) ((aC a B W 15 + aC a B W 16) % 2) 1 (1 - aC a B W 16))) := by
    unfold c_Processor_wordsWithCarry
    have p1' : c_Bank_pair 11 σ 2 = some (nI a) := p1
    rw [cb_bo_e p1', e4, cb_bo_e w1, cb_let_e, if_pos e8, F1, cf1 f hf, cb_bo_e (c_sub_16 ha hb hc eB.symm eW.symm)]
  rw [ec]
  exact s_wc (n := 1) h hf hk F1 hlt rfl rfl (m1_le _) (m2_le _) (Nat.le_refl 1) (m1_le _) (fun σ q => q) F2 rfl (ov_s _ (le_2 c15) _ (le_2 c16)) rfl
/-- NEG -/
theorem s_neg (h : cb_R g σ τ) {N : Nat} (hN : 16 < N) :
    cb_Sm (cb_bo (c_Flags_subtract (0 : Int32) (σ 12 7) (0 : Int32)) fun c4 => cb_bo (c_Bank_putPair 11 σ (3 : Int32) c4) fun σc5 => some ((8 : Int32), σc5)) (cb_let (τ 2 7) fun t36 => cb_let (cb_up τ 2 7 (0 : Int32)) fun τ38 => cb_bo (m_operate N τ38 (2 : Int32) t36) fun τ40 => some ((8 : Int32), τ40)) (cb_P g) := by
  obtain ⟨a, f, ha, hf, hk, A1, A2, F1, F2⟩ := pAF h
  obtain ⟨B, eB⟩ : ∃ B, 255 - a = B := ⟨_, rfl⟩
  have h38 : cb_R g (cb_up σ 12 7 (nI 0)) (cb_up τ 2 7 (nI 0)) := ps_reg h (by omega) (by_lt (by omega)) (by omega)
  obtain ⟨τ1, e1, hR, -⟩ := m_op_sub (g := g) (τ := cb_up τ 2 7 (nI 0)) (N := N) (o := 2) (v := a) (a := 0) (w := 0) (W := 1) (by omega) (Or.inl rfl) rfl (show cb_up τ 2 7 (nI 0) 2 6 = nI f from F2) (by omega) ha (by omega) hf hk eB.symm rfl
  have hlt : aS 0 B 1 8 < 256 := aS_lt 0 B 1 8
  have hfl := fl_lt (t8_le hlt) (zf_le (aS 0 B 1 8)) (m1_le (aC 0 B 1 4)) (m2_le (aC 0 B 1 7 + aC 0 B 1 8)) (Nat.le_refl 1) (m1_le (aC 0 B 1 8))
  have hok := fl_ok _ (le_2 (t8_le hlt)) _ (le_2 (zf_le (aS 0 B 1 8))) _ (le_2 (m1_le (aC 0 B 1 4))) _ (lt_2 (aC 0 B 1 7 + aC 0 B 1 8)) 1 (by omega) _ (le_2 (m1_le (aC 0 B 1 8)))
  have es : c_Flags_subtract (0 : Int32) (nI a) (0 : Int32) = _ := c_sub_8 (a := 0) (b := a) (w := 0) (by omega) ha (by omega) (B := B) (W := 1) eB.symm rfl
  rw [if_neg (by decide), cb_up_cm _ _ _ _ (by decide)] at e1
  have hfin := ps_AF (hR _ h38) hlt hfl hok
  generalize fl (aS 0 B 1 8 / 128) (zf (aS 0 B 1 8)) (1 - aC 0 B 1 4) ((aC 0 B 1 7 + aC 0 B 1 8) % 2) 1 (1 - aC 0 B 1 8) = x at *
  generalize aS 0 B 1 8 = R at *
  rw [A1, A2, cb_bo_e es]
  have em : (cb_let (nI a) fun t36 => cb_let (cb_up τ 2 7 (0 : Int32)) fun τ38 => cb_bo (m_operate N τ38 (2 : Int32) t36) fun τ40 => some ((8 : Int32), τ40)) = some ((8 : Int32), cb_up (cb_up τ1 2 7 (nI R)) 2 6 (nI x)) := by
    show (cb_bo (m_operate_L23 N (nI 2) (nI a) (cb_up τ 2 7 (nI 0)) (nI 0)) fun τ40 => some ((8 : Int32), τ40)) = _
    rw [cb_bo_e e1]
  rw [em]
  refine ⟨8, _, _, ?_, rfl, ck_n 8 (by omega), hfin⟩
  show some ((8 : Int32), cb_up (cb_up σ 12 7 (nI (R * 256 + x) >>> ((8 : Int32) &&& 31) &&& 255)) 12 6 ((nI (R * 256 + x) &&& 255) &&& 215)) = _
  rw [hi_res hfl (by omega), by_255 (by_lt hlt), pf_215, low_and hfl (by decide +kernel), okF_lt x hfl hok, cb_up_up]
theorem cf22 : ∀ f, f < 256 → okF f = true → ∀ t, t < 2 → (nI f &&& ((22 : Int32) ^^^ (-1))) ||| ((if nI t = 0 then (0 : Int32) else 4) &&& 22) = sf (sf (sf (nI f) 16 0) 2 0) 4 (nI t) := by decide +kernel
theorem sf22 : ∀ f, f < 256 → okF f = true → ∀ t, t < 2 → ∃ x, x < 256 ∧ okF x = true ∧ sf (sf (sf (nI f) 16 0) 2 0) 4 (nI t) = nI x := by
  intro f hf hk t ht
  have e : sf (sf (sf (nI f) 16 0) 2 0) 4 (nI t) = nI (fl (f / 128) (f / 64 % 2) 0 t 0 (f % 2)) := (by decide +kernel : ∀ f, f < 256 → okF f = true → ∀ t, t < 2 → sf (sf (sf (nI f) 16 0) 2 0) 4 (nI t) = nI (fl (f / 128) (f / 64 % 2) 0 t 0 (f % 2))) f hf hk t ht
  have k1 : f / 128 ≤ 1 := by omega
  exact ⟨_, fl_lt k1 (m2_le _) (Nat.zero_le 1) (Nat.le_of_lt_succ ht) (Nat.zero_le 1) (m2_le _), fl_ok _ (le_2 k1) _ (lt_2 _) 0 (by omega) _ ht 0 (by omega) _ (lt_2 _), e⟩
/-- LDI, LDIR: v = 1 where it repeats -/
theorem s_copies (h : cb_R g σ τ) {t0 : Int32} : cb_Sm (cb_b2 (c_Processor_copyByte σ) fun c σc => if t0 = 0 then some ((16 : Int32), σc) else (if c = 0 then some ((16 : Int32), σc) else cb_let (cb_up σc 10 3 (((σc 10 3) - (2 : Int32)) &&& (65535 : Int32))) fun σ25 => some ((21 : Int32), σ25))) (m_copies τ t0) (cb_P g) := by
  obtain ⟨r1, d1, d2, hr1⟩ := s_pair h (k := 1) (by omega)
  obtain ⟨r2, l1, l2, hr2⟩ := s_pair h (k := 2) (by omega)
  obtain ⟨x, b1, b2, hx⟩ := s_byteAt h r2
  obtain ⟨σ1, τ1, q1, q2, h1⟩ := s_putByte h r1 x
  have d3 : c_Bank_pair 11 σ1 (nI 1) = some r1 := by rw [← d1, ← Option.some.inj q1]; rfl
  have l3 : c_Bank_pair 11 σ1 (nI 2) = some r2 := by rw [← l1, ← Option.some.inj q1]; rfl
  have d4 : m_pair τ1 (nI (2 * 1)) = some r1 := by
    obtain ⟨r, k1, k2, -⟩ := s_pair h1 (k := 1) (by omega)
    rw [d3] at k1; rw [k2, ← k1]
  obtain ⟨σ2, τ2, q3, q4, h2⟩ := s_putPair h1 (k := 1) (by omega) (r1 + 1)
  have l4 : m_pair τ2 (nI (2 * 2)) = some r2 := by
    obtain ⟨r, k1, k2, -⟩ := s_pair h2 (k := 2) (by omega)
    have : c_Bank_pair 11 σ2 (nI 2) = some r2 := by rw [← l3, ← Option.some.inj q3]; rfl
    rw [this] at k1; rw [k2, ← k1]
  obtain ⟨σ3, τ3, q5, q6, h3⟩ := s_putPair h2 (k := 2) (by omega) (r2 + 1)
  obtain ⟨r3, c1, c2, hr3⟩ := s_pair h3 (k := 0) (by omega)
  obtain ⟨σ4, τ4, q7, q8, h4⟩ := s_putPair h3 (k := 0) (by omega) (r3 - 1)
  obtain ⟨r4, c3, c4, hr4⟩ := s_pair h4 (k := 0) (by omega)
  obtain ⟨a0, f, -, hf, hk, -, -, F1, F2⟩ := pAF h4
  obtain ⟨t, ht, et⟩ : ∃ t : Nat, t < 2 ∧ (if r4 = 0 then (0 : Int32) else 1) = nI t := by
    by_cases e : r4 = 0
    · exact ⟨0, by omega, by rw [if_pos e]; rfl⟩
    · exact ⟨1, by omega, by rw [if_neg e]; rfl⟩
  obtain ⟨y, hy, hyk, ey⟩ := sf22 f hf hk t ht
  have h5 := ps_F h4 hy hyk
  have ec : c_Processor_copyByte σ = some (nI t, cb_up σ4 12 6 (nI y)) := by
    have p1 : c_Bank_pair 11 σ 1 = some r1 := d1
    have p2 : c_Bank_pair 11 σ 2 = some r2 := l1
    have p3 : c_Bank_putPair 11 σ1 1 (r1 + 1) = some σ2 := q3
    have p4 : c_Bank_putPair 11 σ2 2 (r2 + 1) = some σ3 := q5
    have p5 : c_Bank_pair 11 σ3 0 = some r3 := c1
    have p6 : c_Bank_putPair 11 σ3 0 (r3 - 1) = some σ4 := q7
    have p7 : c_Bank_pair 11 σ4 0 = some r4 := c3
    unfold c_Processor_copyByte
    rw [cb_bo_e p1, cb_bo_e p2, cb_bo_e b1, cb_bo_e q1, cb_bo_e p3, cb_bo_e p4, cb_bo_e p5, cb_bo_e p6, cb_bo_e p7, et, cb_let_e, cb_bo_e (c_cf _ _ _), F1, cf22 f hf hk t ht, ey]
  have em : m_copies τ t0 = (if t0 = 0 then (some ((16 : Int32), cb_up τ4 2 6 (nI y))) else (if nI t = 0 then (some ((16 : Int32), cb_up τ4 2 6 (nI y))) else (cb_let (cb_up (cb_up τ4 2 6 (nI y)) 0 3 (((τ4 0 3) - (2 : Int32)) &&& (65535 : Int32))) fun σ20 => (some ((21 : Int32), σ20))))) := by
    have p1 : m_pair τ 2 = some r1 := d2
    have p2 : m_pair τ 4 = some r2 := l2
    have p3 : m_pair τ1 2 = some r1 := d4
    have p4 : m_putPair τ1 2 (r1 + 1) = some τ2 := q4
    have p5 : m_pair τ2 4 = some r2 := l4
    have p6 : m_putPair τ2 4 (r2 + 1) = some τ3 := q6
    have p7 : m_pair τ3 0 = some r3 := c2
    have p8 : m_putPair τ3 0 (r3 - 1) = some τ4 := q8
    have p9 : m_pair τ4 0 = some r4 := c4
    unfold m_copies
    rw [cb_bo_e p1, cb_bo_e p2, cb_bo_e b2, cb_bo_e q2, cb_bo_e p3, cb_bo_e p4, cb_bo_e p5, cb_bo_e p6, cb_bo_e p7, cb_bo_e p8, cb_bo_e p9, et, cb_let_e, cb_bo_e (m_sf _ _ _), cb_bo_e (m_sf _ _ _), cb_bo_e (m_sf _ _ _), cb_up_up, cb_up_up]
    show (if t0 = 0 then (some ((16 : Int32), cb_up τ4 2 6 (sf (sf (sf (τ4 2 6) 16 0) 2 0) 4 (nI t)))) else (if nI t = 0 then (some ((16 : Int32), cb_up τ4 2 6 (sf (sf (sf (τ4 2 6) 16 0) 2 0) 4 (nI t)))) else (cb_let (cb_up (cb_up τ4 2 6 (sf (sf (sf (τ4 2 6) 16 0) 2 0) 4 (nI t))) 0 3 (((τ4 0 3) - (2 : Int32)) &&& (65535 : Int32))) fun σ20 => (some ((21 : Int32), σ20))))) = _
    rw [F2, ey]
  rw [cb_b2_e ec, em]
  by_cases e0 : t0 = 0
  · rw [if_pos e0, if_pos e0]
    exact ⟨16, _, _, rfl, rfl, ck_n 16 (by omega), h5⟩
  · rw [if_neg e0, if_neg e0]
    by_cases e1 : nI t = 0
    · rw [if_pos e1, if_pos e1]
      exact ⟨16, _, _, rfl, rfl, ck_n 16 (by omega), h5⟩
    · rw [if_neg e1, if_neg e1, ← pe_pc h4]
      exact ⟨21, _, _, rfl, rfl, ck_n 21 (by omega), ps_pc h5 (cb_65535 _)⟩
end P13
