/-! the run, both sides -/
section P26
variable {g : Int32 × Int32 × Int32} {σ τ : cb_S}
theorem c_end {N n : Nat} {v x y : Int32} (h : σ 3 8 = 1) : c_Board_run_H17 N v (n + 1) σ x y = some (x, σ) := by
  show c_Board_run_B17 N v (c_Board_run_H17 N v n) σ x y = _
  unfold c_Board_run_B17
  by_cases e : v ≤ y
  · rw [if_pos e]
  · rw [if_neg e]
    by_cases e : v ≤ x
    · rw [if_pos e]
    · rw [if_neg e, h, if_neg (show ¬ (1 : Int32) = 0 by decide)]
theorem m_end {N n : Nat} {v : Int32} (h : τ 0 7 = 2) : m_run_H18 N v (n + 1) τ = some (τ 0 8, τ) := by
  show m_run_B18 N v (m_run_H18 N v n) τ = _
  unfold m_run_B18
  by_cases e : v ≤ τ 0 8
  · rw [if_pos e]
  · rw [if_neg e, h, if_pos (show (2 : Int32) ≤ 2 by decide)]
def cb_Ev (_ : Int32) (σ τ : cb_S) : Prop := ∃ g, cb_R g σ τ
theorem s_loop {N : Nat} (hN : 100 < N) {V : Nat} (hV : V ≤ 5000) : ∀ (n X I : Nat) {g : Int32 × Int32 × Int32} {σ τ : cb_S}, cb_R g σ τ → g.2.1 = nI X → I ≤ X → X < 10000 → V - X + 1 < n →
    cb_Sm (c_Board_run_H17 N (nI V) n σ (nI X) (nI I)) (m_run_H18 N (nI V) n τ) cb_Ev := by
  intro n
  induction n with
  | zero => intro X I g σ τ h hX hI hB hn; omega
  | succ n ih =>
    intro X I g σ τ h hX hI hB hn
    obtain ⟨g9, g8, gs⟩ := ps_g1 h
    rw [hX] at g8
    rcases ps_st h with ⟨x8, t7⟩ | st
    · rw [c_end x8, m_end t7, g8]
      exact ⟨_, _, _, rfl, rfl, g, h⟩
    · have x8 : σ 3 8 = 0 := by rcases st with a | a <;> exact a.1
      have t7 : ¬ (2 : Int32) ≤ τ 0 7 := by
        rcases st with a | a
        · rw [a.2.2]; decide
        · rw [a.2.2]; decide
      rw [x8] at gs
      show cb_Sm (c_Board_run_B17 N (nI V) (c_Board_run_H17 N (nI V) n) σ (nI X) (nI I)) (m_run_B18 N (nI V) (m_run_H18 N (nI V) n) τ) cb_Ev
      unfold c_Board_run_B17 m_run_B18
      rw [g8]
      by_cases e : V ≤ X
      · rw [if_pos (nI_le e (by omega)), if_pos (nI_le e (by omega))]
        refine ⟨nI X, σ, τ, ?_, rfl, g, h⟩
        split <;> rfl
      · rw [if_neg (nI_ge (show I < V by omega) (by omega)), if_neg (nI_ge (show X < V by omega) (by omega)), if_neg (nI_ge (show X < V by omega) (by omega)), if_neg t7, if_pos x8, cb_let_e]
        obtain ⟨c, e, σ', τ', hc, he, q1, q2⟩ := s_turn h hN gs.symm (v1 := nI V) (k18 := m_run_H18 N (nI V) n)
        rw [cb_b2_e q1, cb_let_e]
        rcases q2 with ⟨rfl, h2, q2⟩ | ⟨hc0, h2, q2⟩
        · rw [q2]
          have y8 : σ' 3 8 = 1 := (ps_g1 h2).2.2
          have y7 : τ' 0 7 = 2 := by
            rcases ps_st h2 with a | a | a
            · exact a.2
            · rw [y8] at a; exact absurd a.1 (by decide)
            · rw [y8] at a; exact absurd a.1 (by decide)
          have y0 : τ' 0 8 = nI X := (ps_g1 h2).2.1.trans hX
          obtain ⟨f, rfl⟩ : ∃ f, n = f + 1 := ⟨n - 1, by omega⟩
          rw [cb_b2_e (s_att1 (Or.inr y8)), cb_let_e, cb_let_e, c_end y8, m_end y7, y0, nI_add, nI_add]
          exact ⟨_, _, _, rfl, rfl, _, h2⟩
        · rw [q2]
          have hat : ∃ c7 σ2 τ2, c7 < 32 ∧ c_Processor_attend N σ' = some (nI c7, σ2) ∧ (if e = 0 then cb_bo (m_acknowledge N τ') (m_run_H18 N (nI V) n) else m_run_H18 N (nI V) n τ') = m_run_H18 N (nI V) n τ2 ∧ cb_R (e, g.2.1 + nI c + nI c7, 0) σ2 τ2 := by
            rcases he with rfl | rfl
            · obtain ⟨c7, σ2, τ2, w1, w2, w3, w4⟩ := s_att h2 hN rfl rfl
              refine ⟨c7, σ2, τ2, w1, w2, ?_, w4⟩
              rw [if_pos rfl, cb_bo_e w3]
            · refine ⟨0, σ', τ', by omega, s_att1 (Or.inl (ps_g1 h2).1), ?_, ?_⟩
              · rw [if_neg (show ¬ (1 : Int32) = 0 by decide)]
              · rw [show nI 0 = 0 from rfl, Int32.add_zero]; exact h2
          obtain ⟨c7, σ2, τ2, w1, w2, w3, w4⟩ := hat
          rw [w3, cb_b2_e w2, cb_let_e, cb_let_e, nI_add, nI_add, nI_1]
          refine ih (X + c + c7) (I + 1) w4 ?_ (by omega) (by omega) (by omega)
          show g.2.1 + nI c + nI c7 = _
          rw [hX, nI_add, nI_add]
theorem ps_zero (h : cb_R g σ τ) : cb_R (g.1, 0, g.2.2) σ (cb_up τ 0 8 0) := by
  obtain ⟨h1, h2, h3, ⟨a1, a2, a3, a4, a5, a6, a7, a8, a9, a10, a11⟩, h5⟩ := h
  exact ⟨h1, h2, h3, ⟨a1, a2, a3, a4, a5, a6, a7, a8, a9, rfl, a11⟩, h5⟩
theorem s_run (h : cb_R g σ τ) {N : Nat} (hN : 5100 < N) (v : Int32) : cb_Sm (c_Board_run N σ v) (m_run N τ v) cb_Ev := by
  have h0 := ps_zero h
  unfold c_Board_run m_run
  rw [cb_let_e]
  by_cases e : v < 0
  · rw [if_pos e, if_pos e]
    exact ⟨_, _, _, rfl, rfl, _, h0⟩
  · rw [if_neg e, if_neg e]
    by_cases e5 : v ≤ 5000
    · rw [if_pos e5, if_pos e5]
      obtain ⟨V, hV, rfl⟩ := nI_of2 (M := 5000) (n := 5000) (by decide) e e5
      exact s_loop (by omega) hV N 0 0 h0 rfl (by omega) (by omega) (by omega)
    · rw [if_neg e5, if_neg e5]
      exact ⟨_, _, _, rfl, rfl, _, h0⟩
end P26
