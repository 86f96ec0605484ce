/-! the codes behind ED, both sides -/
section P18
variable {g : Int32 × Int32 × Int32} {σ τ : cb_S}
theorem ps_srv6 (h : cb_R g σ τ) {v : Int32} (hv : cb_01 v) : cb_R g (cb_up σ 6 2 v) (cb_up τ 4 0 v) := by
  obtain ⟨h1, h2, h3, h4, ⟨⟨a0, a1, a2, a4, a5, a6, a7, a8, a10, sc, b0, b1, b2, b7, b8, b10⟩, d2, d3, d4, d5⟩⟩ := h
  exact ⟨h1, h2, h3, h4, ⟨⟨a0, a1, rfl, a4, a5, a6, a7, a8, a10, sc, b0, b1, hv, b7, b8, b10⟩, d2, d3, d4, d5⟩⟩
theorem ps_srv7 (h : cb_R g σ τ) {v : Int32} (hv : cb_01 v) : cb_R g (cb_up σ 7 2 v) (cb_up τ 4 1 v) := by
  obtain ⟨h1, h2, h3, h4, ⟨d1, ⟨a0, a1, a2, a4, a5, a6, a7, a8, a10, sc, b0, b1, b2, b7, b8, b10⟩, d3, d4, d5⟩⟩ := h
  exact ⟨h1, h2, h3, h4, ⟨d1, ⟨a0, a1, rfl, a4, a5, a6, a7, a8, a10, sc, b0, b1, hv, b7, b8, b10⟩, d3, d4, d5⟩⟩
theorem ps_srv8 (h : cb_R g σ τ) {v : Int32} (hv : cb_01 v) : cb_R g (cb_up σ 8 2 v) (cb_up τ 4 2 v) := by
  obtain ⟨h1, h2, h3, h4, ⟨d1, d2, ⟨a0, a1, a2, a3, a4, a5, a6, a7, a8, a9, a10, a11, a12, a15, sc, b0, b1, b2, b⟩, d4, d5⟩⟩ := h
  exact ⟨h1, h2, h3, h4, ⟨d1, d2, ⟨a0, a1, rfl, a3, a4, a5, a6, a7, a8, a9, a10, a11, a12, a15, sc, b0, b1, hv, b⟩, d4, d5⟩⟩
theorem ps_srv9 (h : cb_R g σ τ) {v : Int32} (hv : cb_01 v) : cb_R g (cb_up σ 9 2 v) (cb_up τ 4 3 v) := by
  obtain ⟨h1, h2, h3, h4, ⟨d1, d2, d3, ⟨a0, a1, a2, a3, a4, a5, a6, a7, a8, a9, a10, a11, a12, a15, sc, b0, b1, b2, b⟩, d5⟩⟩ := h
  exact ⟨h1, h2, h3, h4, ⟨d1, d2, d3, ⟨a0, a1, rfl, a3, a4, a5, a6, a7, a8, a9, a10, a11, a12, a15, sc, b0, b1, hv, b⟩, d5⟩⟩
theorem pe_s6 (h : cb_R g σ τ) : σ 6 2 = τ 4 0 := h.2.2.2.2.1.2.2.1
theorem pe_s7 (h : cb_R g σ τ) : σ 7 2 = τ 4 1 := h.2.2.2.2.2.1.2.2.1
theorem pe_s8 (h : cb_R g σ τ) : σ 8 2 = τ 4 2 := h.2.2.2.2.2.2.1.2.2.1
theorem pe_s9 (h : cb_R g σ τ) : σ 9 2 = τ 4 3 := h.2.2.2.2.2.2.2.1.2.2.1
theorem s_leave (h : cb_R g σ τ) : cb_Sv (c_Chain_endService σ) (m_leave τ) (cb_R g) := by
  unfold c_Chain_endService m_leave
  rw [pe_s6 h, pe_s7 h, pe_s8 h, pe_s9 h]
  by_cases e6 : τ 4 0 = 0
  · rw [if_pos e6, if_pos e6]
    by_cases e7 : τ 4 1 = 0
    · rw [if_pos e7, if_pos e7]
      by_cases e8 : τ 4 2 = 0
      · rw [if_pos e8, if_pos e8]
        by_cases e9 : τ 4 3 = 0
        · rw [if_pos e9, if_pos e9]
          exact ⟨σ, τ, rfl, rfl, h⟩
        · rw [if_neg e9, if_neg e9]
          exact ⟨_, _, rfl, rfl, ps_srv9 h (Or.inl rfl)⟩
      · rw [if_neg e8, if_neg e8]
        exact ⟨_, _, rfl, rfl, ps_srv8 h (Or.inl rfl)⟩
    · rw [if_neg e7, if_neg e7]
      exact ⟨_, _, rfl, rfl, ps_srv7 h (Or.inl rfl)⟩
  · rw [if_neg e6, if_neg e6]
    exact ⟨_, _, rfl, rfl, ps_srv6 h (Or.inl rfl)⟩
theorem ps_im (h : cb_R g σ τ) {v : Int32} (hv : v = 1 ∨ v = 2) : cb_R g (cb_up σ 3 6 v) (cb_up τ 0 6 v) := by
  obtain ⟨h1, h2, h3, ⟨a1, a2, a3, a4, a5, a6, a7, a8, a9⟩, h5⟩ := h
  exact ⟨h1, h2, h3, ⟨a1, rfl, a3, a4, a5, a6, a7, hv, a9⟩, h5⟩
theorem ed_c : ∀ n, n < 256 → (∃ k, k < 4 ∧ n = 66 + 16 * k) ∨ (∃ k, k < 4 ∧ n = 74 + 16 * k) ∨ n = 68 ∨ n = 71 ∨ n = 77 ∨ n = 86 ∨ n = 94 ∨ n = 160 ∨ n = 176 ∨ (¬ (n = 66 ∨ n = 74 ∨ n = 82 ∨ n = 90 ∨ n = 98 ∨ n = 106 ∨ n = 114 ∨ n = 122) ∧ n ≠ 68 ∧ n ≠ 71 ∧ n ≠ 77 ∧ n ≠ 86 ∧ n ≠ 94 ∧ n ≠ 160 ∧ n ≠ 176 ∧ n &&& 199 ≠ 66) := by decide +kernel
theorem s_ed (h : cb_R g σ τ) {N : Nat} (hN : 16 < N) : cb_Sm (cb_b2 (c_Processor_nextByte σ) fun c29 σc29 => cb_b2 (c_Processor_extended σc29 c29) fun c30 σc30 => some (c30, σc30)) (m_extended N τ) (cb_P g) := by
  unfold m_extended
  refine cb_Sm_b2 (s_next h) fun r σ τ h => ?_
  obtain ⟨⟨n, hn, rfl⟩, h⟩ := h
  have wid : ∀ {x y : Option (Int32 × cb_S)}, cb_Sm x y (cb_P g) → cb_Sm (cb_b2 x fun c σ => some (c, σ)) y (cb_P g) := by
    intro x y q
    obtain ⟨r, σ1, τ1, q1, q2, q3⟩ := q
    exact ⟨r, σ1, τ1, by rw [q1]; rfl, q2, q3⟩
  apply wid
  rcases ed_c n hn with ⟨k, hk, rfl⟩ | ⟨k, hk, rfl⟩ | rfl | rfl | rfl | rfl | rfl | rfl | rfl | ⟨o1, o2, o3, o4, o5, o6, o7, o8, o9⟩
  · have w : c_Processor_extended σ (nI (66 + 16 * k)) = cb_b2 (c_Processor_wordsWithCarry σ (nI (66 + 16 * k))) fun c σ => some (c, σ) := by
      rcases cb_lt4 hk with rfl | rfl | rfl | rfl <;> rfl
    rw [w]
    apply wid
    have q := s_wsbc (v := nI (66 + 16 * k)) h hN hk (by rcases cb_lt4 hk with rfl | rfl | rfl | rfl <;> rfl) (by rcases cb_lt4 hk with rfl | rfl | rfl | rfl <;> rfl)
    rcases cb_lt4 hk with rfl | rfl | rfl | rfl <;> exact q
  · have w : c_Processor_extended σ (nI (74 + 16 * k)) = cb_b2 (c_Processor_wordsWithCarry σ (nI (74 + 16 * k))) fun c σ => some (c, σ) := by
      rcases cb_lt4 hk with rfl | rfl | rfl | rfl <;> rfl
    rw [w]
    apply wid
    have q := s_wcar (v := nI (74 + 16 * k)) h hN hk (by rcases cb_lt4 hk with rfl | rfl | rfl | rfl <;> rfl) (by rcases cb_lt4 hk with rfl | rfl | rfl | rfl <;> decide)
    rcases cb_lt4 hk with rfl | rfl | rfl | rfl <;> exact q
  · exact s_neg h hN
  · show cb_Sm (some ((9 : Int32), cb_up σ 10 4 (σ 12 7))) (some ((9 : Int32), cb_up τ 0 4 (τ 2 7))) (cb_P g)
    rw [pe_A h]
    exact s_some (n := 9) (by omega) rfl (ps_page h (pb_A h))
  · show cb_Sm (cb_b2 (c_Processor_pop σ) fun c10 σ => cb_bo (c_Chain_endService (cb_up σ 10 3 c10)) fun σ => some ((14 : Int32), σ)) (cb_b2 (m_pop τ) fun c19 τ => cb_bo (m_leave (cb_up τ 0 3 c19)) fun τ => some ((14 : Int32), τ)) (cb_P g)
    exact cb_Sm_b2 (s_pop h) fun r σ1 τ1 h1 => cb_Sm_bv (s_leave (ps_pc h1.2 h1.1)) fun σ2 τ2 h2 => s_some (n := 14) (by omega) rfl h2
  · exact ⟨8, _, _, rfl, rfl, ck_n 8 (by omega), ps_im h (Or.inl rfl)⟩
  · exact ⟨8, _, _, rfl, rfl, ck_n 8 (by omega), ps_im h (Or.inr rfl)⟩
  · have q := wid (s_copies (t0 := 0) h)
    obtain ⟨r, σ1, τ1, q1, q2, q3⟩ := q
    refine ⟨r, σ1, τ1, ?_, ?_, q3⟩
    · obtain ⟨c, s, k1, k2⟩ := cb_b2_o q1
      obtain ⟨c', s', k3, k4⟩ := cb_b2_o k1
      show (cb_b2 (c_Processor_copyByte σ) fun c21 σc21 => (some ((16 : Int32), σc21))) = _
      rw [cb_b2_e k3]
      rw [if_pos rfl] at k4
      rw [← k2, k4.symm ▸ rfl]
    · show m_extended_L154 N τ (nI 160) = _
      show (cb_b2 (m_copies τ 0) fun c5 σc5 => (some (c5, σc5))) = _
      rw [cb_b2_e q2]
  · have q := s_copies (t0 := 1) h
    obtain ⟨r, σ1, τ1, q1, q2, q3⟩ := q
    refine ⟨r, σ1, τ1, q1, ?_, q3⟩
    show (cb_b2 (m_copies τ 1) fun c5 σc5 => (some (c5, σc5))) = _
    rw [cb_b2_e q2]
  · have nq : ∀ b : Nat, b < 256 → n ≠ b → ¬ nI n = nI b := fun b hb hne q => hne ((nI_eq (by omega) (by omega)).mp q)
    have q199 : ¬ nI n &&& 199 = nI 66 := by
      intro q
      rw [show (199 : Int32) = nI 199 from rfl, cb_and_n] at q
      exact o9 ((nI_eq (Nat.lt_of_le_of_lt Nat.and_le_left (by omega)) (by omega)).mp q)
    have qw : ¬ (nI n = 66 ∨ nI n = 74 ∨ nI n = 82 ∨ nI n = 90 ∨ nI n = 98 ∨ nI n = 106 ∨ nI n = 114 ∨ nI n = 122) := by
      rintro (q | q | q | q | q | q | q | q)
      · exact nq 66 (by omega) (by omega) q
      · exact nq 74 (by omega) (by omega) q
      · exact nq 82 (by omega) (by omega) q
      · exact nq 90 (by omega) (by omega) q
      · exact nq 98 (by omega) (by omega) q
      · exact nq 106 (by omega) (by omega) q
      · exact nq 114 (by omega) (by omega) q
      · exact nq 122 (by omega) (by omega) q
    refine ⟨0, σ, cb_up τ 0 6 (τ 0 6), ?_, ?_, ck_n 0 (by omega), h⟩
    · unfold c_Processor_extended
      rw [if_neg qw, if_neg (nq 68 (by omega) o2), if_neg (nq 71 (by omega) o3), if_neg (nq 77 (by omega) o4), if_neg (nq 86 (by omega) o5), if_neg (nq 94 (by omega) o6), if_neg (nq 160 (by omega) o7), if_neg (nq 176 (by omega) o8)]
    · have n86 : ¬ nI n = 86 := nq 86 (by omega) o5
      have n94 : ¬ nI n = 94 := nq 94 (by omega) o6
      rw [if_neg (nq 68 (by omega) o2), if_neg q199, if_neg (nq 160 (by omega) o7), if_neg (nq 176 (by omega) o8), if_neg (nq 71 (by omega) o3), if_neg (nq 77 (by omega) o4)]
      simp only [cb_let_e, if_neg n86, if_neg n94]
end P18
