/-! the codes behind ED, both sides -/
section P18
variable {g : Int32 × Int32 × Int32} {σ τ : cb_S}
theorem ps_srv6 (h : cb_R g σ τ) {v : Int32} (hv : cb_01 v) : cb_R g (cb_up σ 6 2 v) (cb_up τ 4 0 v) := by
  obtain ⟨h1, h2, h3, h4, ⟨⟨a0, a1, a2, a4, a5, a6, a7, a8, a10, sc, b0, b1, b2, b7, b8, b10⟩, d2, d3, d4, d5⟩⟩ := h
  exact ⟨h1, h2, h3, h4, ⟨⟨a0, a1, rfl, a4, a5, a6, a7, a8, a10, sc, b0, b1, hv, b7, b8, b10⟩, d2, d3, d4, d5⟩⟩
theorem ps_srv7 (h : cb_R g σ τ) {v : Int32} (hv : cb_01 v) : cb_R g (cb_up σ 7 2 v) (cb_up τ 4 1 v) := by
  obtain ⟨h1, h2, h3, h4, ⟨d1, ⟨a0, a1, a2, a4, a5, a6, a7, a8, a10, sc, b0, b1, b2, b7, b8, b10⟩, d3, d4, d5⟩⟩ := h
  exact ⟨h1, h2, h3, h4, ⟨d1, ⟨a0, a1, rfl, a4, a5, a6, a7, a8, a10, sc, b0, b1, hv, b7, b8, b10⟩, d3, d4, d5⟩⟩
theorem ps_srv8 (h : cb_R g σ τ) {v : Int32} (hv : cb_01 v) : cb_R g (cb_up σ 8 2 v) (cb_up τ 4 2 v) := by
  obtain ⟨h1, h2, h3, h4, ⟨d1, d2, ⟨a0, a1, a2, a3, a4, a5, a6, a7, a8, a9, a10, a11, a12, a15, sc, b0, b1, b2, b⟩, d4, d5⟩⟩ := h
  exact ⟨h1, h2, h3, h4, ⟨d1, d2, ⟨a0, a1, rfl, a3, a4, a5, a6, a7, a8, a9, a10, a11, a12, a15, sc, b0, b1, hv, b⟩, d4, d5⟩⟩
theorem ps_srv9 (h : cb_R g σ τ) {v : Int32} (hv : cb_01 v) : cb_R g (cb_up σ 9 2 v) (cb_up τ 4 3 v) := by
  obtain ⟨h1, h2, h3, h4, ⟨d1, d2, d3, ⟨a0, a1, a2, a3, a4, a5, a6, a7, a8, a9, a10, a11, a12, a15, sc, b0, b1, b2, b⟩, d5⟩⟩ := h
  exact ⟨h1, h2, h3, h4, ⟨d1, d2, d3, ⟨a0, a1, rfl, a3, a4, a5, a6, a7, a8, a9, a10, a11, a12, a15, sc, b0, b1, hv, b⟩, d5⟩⟩
theorem pe_s6 (h : cb_R g σ τ) : σ 6 2 = τ 4 0 := h.2.2.2.2.1.2.2.1
theorem pe_s7 (h : cb_R g σ τ) : σ 7 2 = τ 4 1 := h.2.2.2.2.2.1.2.2.1
theorem pe_s8 (h : cb_R g σ τ) : σ 8 2 = τ 4 2 := h.2.2.2.2.2.2.1.2.2.1
theorem pe_s9 (h : cb_R g σ τ) : σ 9 2 = τ 4 3 := h.2.2.2.2.2.2.2.1.2.2.1
theorem s_leave (h : cb_R g σ τ) : cb_Sv (c_Chain_endService σ) (m_leave τ) (cb_R g) := by
  unfold c_Chain_endService m_leave
  rw [pe_s6 h, pe_s7 h, pe_s8 h, pe_s9 h]
  by_cases e6 : τ 4 0 = 0
  · rw [if_pos e6, if_pos e6]
    by_cases e7 : τ 4 1 = 0
    · rw [if_pos e7, if_pos e7]
      by_cases e8 : τ 4 2 = 0
      · rw [if_pos e8, if_pos e8]
        by_cases e9 : τ 4 3 = 0
        · rw [if_pos e9, if_pos e9]
          exact ⟨σ, τ, rfl, rfl, h⟩
        · rw [if_neg e9, if_neg e9]
          exact ⟨_, _, rfl, rfl, ps_srv9 h (Or.inl rfl)⟩
      · rw [if_neg e8, if_neg e8]
        exact ⟨_, _, rfl, rfl, ps_srv8 h (Or.inl rfl)⟩
    · rw [if_neg e7, if_neg e7]
      exact ⟨_, _, rfl, rfl, ps_srv7 h (Or.inl rfl)⟩
  · rw [if_neg e6, if_neg e6]
    exact ⟨_, _, rfl, rfl, ps_srv6 h (Or.inl rfl)⟩
theorem ps_im (h : cb_R g σ τ) {v : Int32} (hv : v = 1 ∨ v = 2) : cb_R g (cb_up σ 3 6 v) (cb_up τ 0 6 v) := by
  obtain ⟨h1, h2, h3, ⟨a1, a2, a3, a4, a5, a6, a7, a8, a9⟩, h5⟩ := h
  exact ⟨h1, h2, h3, ⟨a1, rfl, a3, a4, a5, a6, a7, hv, a9⟩, h5⟩
theorem ed_c : ∀ n, n < 256 → (∃ k, k < 4 ∧ n = 66 + 16 * k) ∨ (∃ k, k < 4 ∧ n = 74 + 16 * k) ∨ n = 68 ∨ n = 71 ∨ n = 77 ∨ n = 86 ∨ n = 94 ∨ n = 160 ∨ n = 176 ∨ (¬ (n = 66 ∨ n = 74 ∨ n = 82 ∨ n = 90 ∨ n = 98 ∨ n = 106 ∨ n = 114 ∨ n = 122) ∧ n ≠ 68 ∧ n ≠ 71 ∧ n ≠ 77 ∧ n ≠ 86 ∧ n ≠ 94 ∧ n ≠ 160 ∧ n ≠ 176 ∧ n &&& 199 ≠ 66) := by decide +kernel
def m_ext6 (N : Nat) (σc6 : cb_S) (c6 : Int32) : Option (Int32 × cb_S) := (if c6 = (68 : Int32) then (cb_let (σc6 2 7) fun t36 => (cb_let (cb_up σc6 2 7 (0 : Int32)) fun σ38 => (cb_bo (m_operate N σ38 (2 : Int32) t36) fun σc40 => (some ((8 : Int32), σc40))))) else (if (c6 &&& (199 : Int32)) = (66 : Int32) then (cb_let (if (c6 &&& (8 : Int32)) = 0 then (1 : Int32) else (0 : Int32)) fun t26 => (cb_bo (m_wide σc6 ((c6 >>> ((4 : Int32) &&& 31)) &&& (3 : Int32))) fun c28 => (if t26 = 0 then (cb_bo (m_pair σc6 (4 : Int32)) fun c30 => (cb_bo (m_flag σc6 (1 : Int32)) fun c31 => (cb_b2 (m_add N σc6 c30 c28 c31 (16 : Int32)) fun c32 σc32 => (m_extended_L110 N σc32 t26 c32)))) else (cb_bo (m_pair σc6 (4 : Int32)) fun c33 => (cb_bo (m_flag σc6 (1 : Int32)) fun c34 => (cb_b2 (m_subtract N σc6 c33 c28 c34 (16 : Int32)) fun c35 σc35 => (m_extended_L110 N σc35 t26 c35))))))) else (if c6 = (160 : Int32) then (m_extended_L154 N σc6 c6) else (if c6 = (176 : Int32) then (m_extended_L154 N σc6 c6) else (if c6 = (71 : Int32) then (cb_let (cb_up σc6 0 4 (σc6 2 7)) fun σ23 => (some ((9 : Int32), σ23))) else (if c6 = (77 : Int32) then (cb_b2 (m_pop σc6) fun c19 σc19 => (cb_let (cb_up σc19 0 3 c19) fun σ20 => (cb_bo (m_leave σ20) fun σc22 => (some ((14 : Int32), σc22))))) else (cb_let (cb_up σc6 0 6 (if c6 = (86 : Int32) then (1 : Int32) else (if c6 = (94 : Int32) then (2 : Int32) else (σc6 0 6)))) fun σ15 => (some ((if c6 = (86 : Int32) then (8 : Int32) else (if c6 = (94 : Int32) then (8 : Int32) else (0 : Int32))), σ15)))))))))
theorem m_ext_e {N : Nat} : m_extended N τ = cb_b2 (m_next τ) fun c6 τ6 => m_ext6 N τ6 c6 := rfl
theorem s_wid {x y : Option (Int32 × cb_S)} {P : Int32 → cb_S → cb_S → Prop} (q : cb_Sm x y P) : cb_Sm (cb_b2 x fun c σ => some (c, σ)) y P := by
  obtain ⟨r, σ1, τ1, q1, q2, q3⟩ := q
  exact ⟨r, σ1, τ1, by rw [q1]; rfl, q2, q3⟩
theorem ed_66 {N k : Nat} (hk : k < 4) : m_ext6 N τ (nI (66 + 16 * k)) = cb_bo (m_wide τ (nI k)) fun c28 => cb_bo (m_pair τ 4) fun c30 => cb_bo (m_flag τ 1) fun c31 => cb_b2 (m_subtract N τ c30 c28 c31 16) fun c32 τ32 => m_extended_L110 N τ32 1 c32 := by
  have e1 : ¬ nI (66 + 16 * k) = 68 := by rcases cb_lt4 hk with rfl | rfl | rfl | rfl <;> decide
  have e2 : nI (66 + 16 * k) &&& 199 = 66 := by rcases cb_lt4 hk with rfl | rfl | rfl | rfl <;> decide
  have e3 : nI (66 + 16 * k) &&& 8 = 0 := by rcases cb_lt4 hk with rfl | rfl | rfl | rfl <;> decide
  have e4 : (nI (66 + 16 * k) >>> ((4 : Int32) &&& 31)) &&& 3 = nI k := by rcases cb_lt4 hk with rfl | rfl | rfl | rfl <;> decide
  unfold m_ext6
  rw [if_neg e1, if_pos e2, if_pos e3, e4, cb_let_e]
  simp only [show ¬ (1 : Int32) = 0 by decide, if_false]
theorem ed_74 {N k : Nat} (hk : k < 4) : m_ext6 N τ (nI (74 + 16 * k)) = cb_bo (m_wide τ (nI k)) fun c28 => cb_bo (m_pair τ 4) fun c30 => cb_bo (m_flag τ 1) fun c31 => cb_b2 (m_add N τ c30 c28 c31 16) fun c32 τ32 => m_extended_L110 N τ32 0 c32 := by
  have e1 : ¬ nI (74 + 16 * k) = 68 := by rcases cb_lt4 hk with rfl | rfl | rfl | rfl <;> decide
  have e2 : nI (74 + 16 * k) &&& 199 = 66 := by rcases cb_lt4 hk with rfl | rfl | rfl | rfl <;> decide
  have e3 : ¬ nI (74 + 16 * k) &&& 8 = 0 := by rcases cb_lt4 hk with rfl | rfl | rfl | rfl <;> decide
  have e4 : (nI (74 + 16 * k) >>> ((4 : Int32) &&& 31)) &&& 3 = nI k := by rcases cb_lt4 hk with rfl | rfl | rfl | rfl <;> decide
  unfold m_ext6
  rw [if_neg e1, if_pos e2, if_neg e3, e4, cb_let_e]
  simp only [if_true]
theorem s_ed66 (h : cb_R g σ τ) {N k : Nat} (hN : 16 < N) (hk : k < 4) : cb_Sm (c_Processor_extended σ (nI (66 + 16 * k))) (m_ext6 N τ (nI (66 + 16 * k))) (cb_P g) := by
  have w : c_Processor_extended σ (nI (66 + 16 * k)) = cb_b2 (c_Processor_wordsWithCarry σ (nI (66 + 16 * k))) fun c σ => some (c, σ) := by
    unfold c_Processor_extended
    rw [if_pos (by rcases cb_lt4 hk with rfl | rfl | rfl | rfl <;> decide)]
  rw [w, ed_66 hk]
  exact s_wid (s_wsbc (v := nI (66 + 16 * k)) h hN hk (by rcases cb_lt4 hk with rfl | rfl | rfl | rfl <;> decide) (by rcases cb_lt4 hk with rfl | rfl | rfl | rfl <;> decide))
theorem s_ed74 (h : cb_R g σ τ) {N k : Nat} (hN : 16 < N) (hk : k < 4) : cb_Sm (c_Processor_extended σ (nI (74 + 16 * k))) (m_ext6 N τ (nI (74 + 16 * k))) (cb_P g) := by
  have w : c_Processor_extended σ (nI (74 + 16 * k)) = cb_b2 (c_Processor_wordsWithCarry σ (nI (74 + 16 * k))) fun c σ => some (c, σ) := by
    unfold c_Processor_extended
    rw [if_pos (by rcases cb_lt4 hk with rfl | rfl | rfl | rfl <;> decide)]
  rw [w, ed_74 hk]
  exact s_wid (s_wcar (v := nI (74 + 16 * k)) h hN hk (by rcases cb_lt4 hk with rfl | rfl | rfl | rfl <;> decide) (by rcases cb_lt4 hk with rfl | rfl | rfl | rfl <;> decide))
theorem s_id' {x y : Option (Int32 × cb_S)} {P : Int32 → cb_S → cb_S → Prop} (q : cb_Sm x y P) : cb_Sm x (cb_b2 y fun c σ => some (c, σ)) P := by
  obtain ⟨r, σ1, τ1, q1, q2, q3⟩ := q
  exact ⟨r, σ1, τ1, q1, by rw [q2]; rfl, q3⟩
theorem s_ed68 (h : cb_R g σ τ) {N : Nat} (hN : 16 < N) : cb_Sm (c_Processor_extended σ (nI 68)) (m_ext6 N τ (nI 68)) (cb_P g) := by
  unfold c_Processor_extended m_ext6
  rw [if_neg (show ¬ (nI 68 = 66 ∨ nI 68 = 74 ∨ nI 68 = 82 ∨ nI 68 = 90 ∨ nI 68 = 98 ∨ nI 68 = 106 ∨ nI 68 = 114 ∨ nI 68 = 122) by decide), if_pos (show nI 68 = 68 by decide)]
  rw [if_pos (show nI 68 = 68 by decide)]
  exact s_neg h hN
theorem s_ed71 (h : cb_R g σ τ) {N : Nat} (hN : 16 < N) : cb_Sm (c_Processor_extended σ (nI 71)) (m_ext6 N τ (nI 71)) (cb_P g) := by
  unfold c_Processor_extended m_ext6
  rw [if_neg (show ¬ (nI 71 = 66 ∨ nI 71 = 74 ∨ nI 71 = 82 ∨ nI 71 = 90 ∨ nI 71 = 98 ∨ nI 71 = 106 ∨ nI 71 = 114 ∨ nI 71 = 122) by decide), if_neg (show ¬ nI 71 = 68 by decide), if_pos (show nI 71 = 71 by decide)]
  rw [if_neg (show ¬ nI 71 = 68 by decide), if_neg (show ¬ nI 71 &&& 199 = 66 by decide), if_neg (show ¬ nI 71 = 160 by decide), if_neg (show ¬ nI 71 = 176 by decide), if_pos (show nI 71 = 71 by decide)]
  rw [cb_let_e, cb_let_e, pe_A h]
  exact s_some (n := 9) (by omega) rfl (ps_page h (pb_A h))
theorem s_ed77 (h : cb_R g σ τ) {N : Nat} (hN : 16 < N) : cb_Sm (c_Processor_extended σ (nI 77)) (m_ext6 N τ (nI 77)) (cb_P g) := by
  unfold c_Processor_extended m_ext6
  rw [if_neg (show ¬ (nI 77 = 66 ∨ nI 77 = 74 ∨ nI 77 = 82 ∨ nI 77 = 90 ∨ nI 77 = 98 ∨ nI 77 = 106 ∨ nI 77 = 114 ∨ nI 77 = 122) by decide), if_neg (show ¬ nI 77 = 68 by decide), if_neg (show ¬ nI 77 = 71 by decide), if_pos (show nI 77 = 77 by decide)]
  rw [if_neg (show ¬ nI 77 = 68 by decide), if_neg (show ¬ nI 77 &&& 199 = 66 by decide), if_neg (show ¬ nI 77 = 160 by decide), if_neg (show ¬ nI 77 = 176 by decide), if_neg (show ¬ nI 77 = 71 by decide), if_pos (show nI 77 = 77 by decide)]
  simp only [cb_let_e]
  exact cb_Sm_b2 (s_pop h) fun r σ1 τ1 h1 => cb_Sm_bv (s_leave (ps_pc h1.2 h1.1)) fun σ2 τ2 h2 => s_some (n := 14) (by omega) rfl h2
theorem s_ed86 (h : cb_R g σ τ) {N : Nat} (hN : 16 < N) : cb_Sm (c_Processor_extended σ (nI 86)) (m_ext6 N τ (nI 86)) (cb_P g) := by
  unfold c_Processor_extended m_ext6
  rw [if_neg (show ¬ (nI 86 = 66 ∨ nI 86 = 74 ∨ nI 86 = 82 ∨ nI 86 = 90 ∨ nI 86 = 98 ∨ nI 86 = 106 ∨ nI 86 = 114 ∨ nI 86 = 122) by decide), if_neg (show ¬ nI 86 = 68 by decide), if_neg (show ¬ nI 86 = 71 by decide), if_neg (show ¬ nI 86 = 77 by decide), if_pos (show nI 86 = 86 by decide)]
  rw [if_neg (show ¬ nI 86 = 68 by decide), if_neg (show ¬ nI 86 &&& 199 = 66 by decide), if_neg (show ¬ nI 86 = 160 by decide), if_neg (show ¬ nI 86 = 176 by decide), if_neg (show ¬ nI 86 = 71 by decide), if_neg (show ¬ nI 86 = 77 by decide)]
  rw [cb_let_e, if_pos (show nI 86 = 86 by decide), if_pos (show nI 86 = 86 by decide), cb_let_e]
  exact s_some (n := 8) (by omega) rfl (ps_im h (Or.inl rfl))
theorem s_ed94 (h : cb_R g σ τ) {N : Nat} (hN : 16 < N) : cb_Sm (c_Processor_extended σ (nI 94)) (m_ext6 N τ (nI 94)) (cb_P g) := by
  unfold c_Processor_extended m_ext6
  rw [if_neg (show ¬ (nI 94 = 66 ∨ nI 94 = 74 ∨ nI 94 = 82 ∨ nI 94 = 90 ∨ nI 94 = 98 ∨ nI 94 = 106 ∨ nI 94 = 114 ∨ nI 94 = 122) by decide), if_neg (show ¬ nI 94 = 68 by decide), if_neg (show ¬ nI 94 = 71 by decide), if_neg (show ¬ nI 94 = 77 by decide), if_neg (show ¬ nI 94 = 86 by decide), if_pos (show nI 94 = 94 by decide)]
  rw [if_neg (show ¬ nI 94 = 68 by decide), if_neg (show ¬ nI 94 &&& 199 = 66 by decide), if_neg (show ¬ nI 94 = 160 by decide), if_neg (show ¬ nI 94 = 176 by decide), if_neg (show ¬ nI 94 = 71 by decide), if_neg (show ¬ nI 94 = 77 by decide)]
  rw [cb_let_e, if_neg (show ¬ nI 94 = 86 by decide), if_pos (show nI 94 = 94 by decide), if_neg (show ¬ nI 94 = 86 by decide), if_pos (show nI 94 = 94 by decide), cb_let_e]
  exact s_some (n := 8) (by omega) rfl (ps_im h (Or.inr rfl))
theorem s_ed160 (h : cb_R g σ τ) {N : Nat} (hN : 16 < N) : cb_Sm (c_Processor_extended σ (nI 160)) (m_ext6 N τ (nI 160)) (cb_P g) := by
  unfold c_Processor_extended m_ext6
  rw [if_neg (show ¬ (nI 160 = 66 ∨ nI 160 = 74 ∨ nI 160 = 82 ∨ nI 160 = 90 ∨ nI 160 = 98 ∨ nI 160 = 106 ∨ nI 160 = 114 ∨ nI 160 = 122) by decide), if_neg (show ¬ nI 160 = 68 by decide), if_neg (show ¬ nI 160 = 71 by decide), if_neg (show ¬ nI 160 = 77 by decide), if_neg (show ¬ nI 160 = 86 by decide), if_neg (show ¬ nI 160 = 94 by decide), if_pos (show nI 160 = 160 by decide)]
  rw [if_neg (show ¬ nI 160 = 68 by decide), if_neg (show ¬ nI 160 &&& 199 = 66 by decide), if_pos (show nI 160 = 160 by decide)]
  unfold m_extended_L154
  rw [if_neg (show ¬ nI 160 = 176 by decide)]
  have q := s_copies (t0 := 0) h
  simp only [if_true] at q
  exact s_id' q
theorem s_ed176 (h : cb_R g σ τ) {N : Nat} (hN : 16 < N) : cb_Sm (c_Processor_extended σ (nI 176)) (m_ext6 N τ (nI 176)) (cb_P g) := by
  unfold c_Processor_extended m_ext6
  rw [if_neg (show ¬ (nI 176 = 66 ∨ nI 176 = 74 ∨ nI 176 = 82 ∨ nI 176 = 90 ∨ nI 176 = 98 ∨ nI 176 = 106 ∨ nI 176 = 114 ∨ nI 176 = 122) by decide), if_neg (show ¬ nI 176 = 68 by decide), if_neg (show ¬ nI 176 = 71 by decide), if_neg (show ¬ nI 176 = 77 by decide), if_neg (show ¬ nI 176 = 86 by decide), if_neg (show ¬ nI 176 = 94 by decide), if_neg (show ¬ nI 176 = 160 by decide), if_pos (show nI 176 = 176 by decide)]
  rw [if_neg (show ¬ nI 176 = 68 by decide), if_neg (show ¬ nI 176 &&& 199 = 66 by decide), if_neg (show ¬ nI 176 = 160 by decide), if_pos (show nI 176 = 176 by decide)]
  unfold m_extended_L154
  rw [if_pos (show nI 176 = 176 by decide)]
  have q := s_copies (t0 := 1) h
  simp only [show ¬ (1 : Int32) = 0 by decide, if_false] at q
  exact s_id' q
theorem s_edo (h : cb_R g σ τ) {N n : Nat} (hn : n < 256) (o : ¬ (n = 66 ∨ n = 74 ∨ n = 82 ∨ n = 90 ∨ n = 98 ∨ n = 106 ∨ n = 114 ∨ n = 122) ∧ n ≠ 68 ∧ n ≠ 71 ∧ n ≠ 77 ∧ n ≠ 86 ∧ n ≠ 94 ∧ n ≠ 160 ∧ n ≠ 176 ∧ n &&& 199 ≠ 66) : cb_Sm (c_Processor_extended σ (nI n)) (m_ext6 N τ (nI n)) (cb_P g) := by
    obtain ⟨o1, o2, o3, o4, o5, o6, o7, o8, o9⟩ := o
    have nq : ∀ b : Nat, b < 256 → n ≠ b → ¬ nI n = nI b := fun b hb hne q => hne ((nI_eq (by omega) (by omega)).mp q)
    have n68 : ¬ nI n = 68 := nq 68 (by omega) o2
    have n71 : ¬ nI n = 71 := nq 71 (by omega) o3
    have n77 : ¬ nI n = 77 := nq 77 (by omega) o4
    have n86 : ¬ nI n = 86 := nq 86 (by omega) o5
    have n94 : ¬ nI n = 94 := nq 94 (by omega) o6
    have n160 : ¬ nI n = 160 := nq 160 (by omega) o7
    have n176 : ¬ nI n = 176 := nq 176 (by omega) o8
    have q199 : ¬ nI n &&& 199 = 66 := by
      intro q
      rw [show (199 : Int32) = nI 199 from rfl, cb_and_n] at q
      exact o9 ((nI_eq (Nat.lt_of_le_of_lt Nat.and_le_left (by omega)) (by omega)).mp q)
    have qw : ¬ (nI n = 66 ∨ nI n = 74 ∨ nI n = 82 ∨ nI n = 90 ∨ nI n = 98 ∨ nI n = 106 ∨ nI n = 114 ∨ nI n = 122) := by
      rintro (q | q | q | q | q | q | q | q)
      · exact nq 66 (by omega) (by omega) q
      · exact nq 74 (by omega) (by omega) q
      · exact nq 82 (by omega) (by omega) q
      · exact nq 90 (by omega) (by omega) q
      · exact nq 98 (by omega) (by omega) q
      · exact nq 106 (by omega) (by omega) q
      · exact nq 114 (by omega) (by omega) q
      · exact nq 122 (by omega) (by omega) q
    refine ⟨0, σ, cb_up τ 0 6 (τ 0 6), ?_, ?_, ck_n 0 (by omega), h⟩
    · unfold c_Processor_extended
      rw [if_neg qw, if_neg n68, if_neg n71, if_neg n77, if_neg n86, if_neg n94, if_neg n160, if_neg n176]
    · unfold m_ext6
      rw [if_neg n68, if_neg q199, if_neg n160, if_neg n176, if_neg n71, if_neg n77]
      simp only [cb_let_e, if_neg n86, if_neg n94]
theorem s_ed (h : cb_R g σ τ) {N : Nat} (hN : 16 < N) : cb_Sm (cb_b2 (c_Processor_nextByte σ) fun c29 σc29 => cb_b2 (c_Processor_extended σc29 c29) fun c30 σc30 => some (c30, σc30)) (m_extended N τ) (cb_P g) := by
  rw [m_ext_e]
  refine cb_Sm_b2 (s_next h) fun r σ τ h => ?_
  obtain ⟨⟨n, hn, rfl⟩, h⟩ := h
  apply s_wid
  rcases ed_c n hn with ⟨k, hk, rfl⟩ | ⟨k, hk, rfl⟩ | rfl | rfl | rfl | rfl | rfl | rfl | rfl | o
  · exact s_ed66 h hN hk
  · exact s_ed74 h hN hk
  · exact s_ed68 h hN
  · exact s_ed71 h hN
  · exact s_ed77 h hN
  · exact s_ed86 h hN
  · exact s_ed94 h hN
  · exact s_ed160 h hN
  · exact s_ed176 h hN
  · exact s_edo h hn o
end P18
