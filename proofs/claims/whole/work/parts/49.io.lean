/-! output and input, both sides -/
section P20
variable {g : Int32 × Int32 × Int32} {σ τ : cb_S}
theorem cb_up_self (σ : cb_S) (j k : Nat) {v : Int32} (h : v = σ j k) : cb_up σ j k v = σ := by
  subst h
  funext i m
  by_cases e : i = j
  · subst e
    by_cases e2 : m = k
    · subst e2; simp [cb_up, upd]
    · simp [cb_up, upd, e2]
  · simp [cb_up, e]
theorem and248 : ∀ b, b < 256 → ∃ n, n < 249 ∧ nI b &&& 248 = nI n := by
  intro b hb
  refine ⟨b &&& 248, ?_, ?_⟩
  · exact Nat.lt_of_le_of_lt Nat.and_le_right (by omega)
  · rw [show (248 : Int32) = nI 248 from rfl, cb_and_n]
theorem cb_bo_some {α β : Type} {a : α} {f : α → Option β} : cb_bo (some a) f = f a := rfl
theorem sv_id {x y : Option cb_S} {P : cb_S → cb_S → Prop} (h : cb_Sv x y P) : cb_Sv (cb_bo x fun σ => some σ) (cb_bo y fun σ => some σ) P := by
  obtain ⟨a, b, q1, q2, q3⟩ := h
  exact ⟨a, b, by rw [q1]; rfl, by rw [q2]; rfl, q3⟩

theorem s_W8 {v : Int32} (h : cb_R g σ τ) : cb_Sv (c_Port_takeControl_L59 8 v σ) (m_portControl_L267 (nI 0) v τ) (cb_R g) := sv_id (s_look8 h)
theorem m_pc8 (v : Int32) : m_portControl τ (nI 0) v = cb_let (τ 15 0) fun t3 => cb_let (cb_up τ 15 0 0) fun τ5 => if t3 = (1 : Int32) then cb_let (cb_up τ5 16 0 v) fun τ46 => m_portControl_L267 (nI 0) v τ46 else (if t3 = (2 : Int32) then cb_let (cb_up τ5 17 0 v) fun τ44 => m_portControl_L267 (nI 0) v τ44 else (if (v &&& (1 : Int32)) = 0 then cb_let (cb_up τ5 14 0 v) fun τ42 => m_portControl_L267 (nI 0) v τ42 else (if (v &&& (15 : Int32)) = (15 : Int32) then cb_let (cb_up τ5 13 0 (if (v >>> ((6 : Int32) &&& 31)) = (2 : Int32) then (3 : Int32) else (v >>> ((6 : Int32) &&& 31)))) fun τ35 => cb_let (cb_up τ35 20 0 0) fun τ37 => cb_let (cb_up τ37 15 0 (if τ37 13 0 = (3 : Int32) then (1 : Int32) else 0)) fun τ40 => m_portControl_L267 (nI 0) v τ40 else (if (v &&& (15 : Int32)) = (7 : Int32) then cb_let (cb_up τ5 5 2 (if v ≤ (127 : Int32) then (0 : Int32) else 1)) fun τ19 => cb_let (cb_up τ19 18 0 (if (v &&& (64 : Int32)) = 0 then (0 : Int32) else 1)) fun τ22 => cb_let (cb_up τ22 19 0 (if (v &&& (32 : Int32)) = 0 then (0 : Int32) else 1)) fun τ25 => cb_let (cb_up τ25 15 0 (if (v &&& (16 : Int32)) = 0 then (0 : Int32) else 2)) fun τ28 => cb_let (cb_up τ28 3 2 (if τ28 3 2 = 0 then (0 : Int32) else (if τ28 15 0 = 0 then (1 : Int32) else 0))) fun τ32 => m_portControl_L267 (nI 0) v τ32 else (if (v &&& (15 : Int32)) = (3 : Int32) then cb_let (cb_up τ5 5 2 (if v ≤ (127 : Int32) then (0 : Int32) else 1)) fun τ15 => m_portControl_L267 (nI 0) v τ15 else m_portControl_L267 (nI 0) v τ5))))) := rfl
theorem s_pc8 (h : cb_R g σ τ) {b : Nat} (hb : b < 256) : cb_Sv (c_Port_takeControl 8 σ (nI b)) (m_portControl τ (nI 0) (nI b)) (cb_R g) := by
  have q127 := s127b b hb
  have qM := md_by b hb
  have hv : cb_by (nI b) := ⟨b, hb, rfl⟩
  obtain ⟨v, ev⟩ : ∃ v, nI b = v := ⟨_, rfl⟩
  rw [ev] at q127 qM hv ⊢
  obtain ⟨h1, h2, h3, h4, ⟨d6, d7, ⟨a0, a1, a2, a3, a4, a5, a6, a7, a8, a9, a10, a11, a12, a15, sc, b0, b1, b2, b3, b4, b5, b6, b7, b8, b9, b10, b11, b12, b15⟩, d9, v1, v2, v3⟩⟩ := h
  rw [m_pc8]
  unfold c_Port_takeControl
  rcases sc with ⟨s13, s14, t15⟩ | ⟨s13, s14, t15⟩ | ⟨s13, s14, t15⟩
  · rw [s13, if_pos rfl, s14, if_pos rfl, t15]
    simp only [cb_let_e]
    rw [if_neg (show ¬ (0 : Int32) = 1 by decide), if_neg (show ¬ (0 : Int32) = 2 by decide)]
    by_cases x1 : v &&& 1 = 0
    · rw [if_pos x1, if_pos x1]
      apply s_W8
      exact ⟨h1, h2, h3, h4, ⟨d6, d7, ⟨a0, a1, a2, rfl, a4, a5, a6, a7, a8, a9, a10, a11, a12, a15, Or.inl ⟨s13, s14, rfl⟩, b0, b1, b2, hv, b4, b5, b6, b7, b8, b9, b10, b11, b12, b15⟩, d9, v1, v2, v3⟩⟩
    · rw [if_neg x1, if_neg x1]
      unfold c_Port_takeCommand
      by_cases x15 : v &&& 15 = 15
      · simp only [if_pos x15, if_neg (show ¬ v &&& 15 = 3 by rw [x15]; decide), if_neg (show ¬ v &&& 15 = 7 by rw [x15]; decide), cb_let_e, cb_bo_some]
        generalize (if (v >>> ((6 : Int32) &&& 31)) = (2 : Int32) then (3 : Int32) else (v >>> ((6 : Int32) &&& 31))) = M at qM ⊢
        apply s_W8
        refine ⟨h1, h2, h3, h4, ⟨d6, d7, ⟨a0, a1, a2, a3, rfl, rfl, a6, a7, a8, a9, a10, a11, a12, a15, ?_, b0, b1, b2, b3, qM, Or.inl rfl, b6, b7, b8, b9, b10, b11, b12, b15⟩, d9, v1, v2, v3⟩⟩
        by_cases m3 : M = 3
        · exact Or.inr (Or.inl ⟨if_pos m3, s14, if_pos m3⟩)
        · exact Or.inl ⟨if_neg m3, s14, if_neg m3⟩
      · simp only [if_neg x15]
        by_cases x7 : v &&& 15 = 7
        · simp only [if_pos x7, if_neg (show ¬ v &&& 15 = 3 by rw [x7]; decide), q127]
          by_cases x16 : v &&& 16 = 0
          · simp only [cb_let_e, if_pos x16, cb_bo_some]
            apply s_W8
            refine ⟨h1, h2, h3, h4, ⟨d6, d7, ⟨rfl, ?_, a2, a3, a4, a5, a6, a7, a8, a9, a10, rfl, rfl, a15, Or.inl ⟨s13, s14, rfl⟩, i01, b1, b2, b3, b4, b5, b6, b7, b8, b9, b10, i01, i01, b15⟩, d9, v1, v2, v3⟩⟩
            show σ 8 1 = if τ 3 2 = 0 then (0 : Int32) else (if (0 : Int32) = 0 then (1 : Int32) else 0)
            rw [if_pos rfl, ← a1, z01 b1]
          · simp only [cb_let_e, if_neg x16, cb_bo_some]
            apply s_W8
            refine ⟨h1, h2, h3, h4, ⟨d6, d7, ⟨rfl, ?_, a2, a3, a4, a5, a6, a7, a8, a9, a10, rfl, rfl, a15, Or.inr (Or.inr ⟨s13, rfl, rfl⟩), i01, Or.inl rfl, b2, b3, b4, b5, b6, b7, b8, b9, b10, i01, i01, b15⟩, d9, v1, v2, v3⟩⟩
            show (0 : Int32) = if τ 3 2 = 0 then (0 : Int32) else (if (2 : Int32) = 0 then (1 : Int32) else 0)
            rw [if_neg (show ¬ (2 : Int32) = 0 by decide)]
            split <;> rfl
        · simp only [if_neg x7]
          by_cases x3 : v &&& 15 = 3
          · simp only [if_pos x3, q127, cb_let_e, cb_bo_some]
            apply s_W8
            exact ⟨h1, h2, h3, h4, ⟨d6, d7, ⟨rfl, a1, a2, a3, a4, a5, a6, a7, a8, a9, a10, a11, a12, a15, Or.inl ⟨s13, s14, rfl⟩, i01, b1, b2, b3, b4, b5, b6, b7, b8, b9, b10, b11, b12, b15⟩, d9, v1, v2, v3⟩⟩
          · simp only [if_neg x3, cb_bo_some]
            apply s_W8
            exact ⟨h1, h2, h3, h4, ⟨d6, d7, ⟨a0, a1, a2, a3, a4, a5, a6, a7, a8, a9, a10, a11, a12, a15, Or.inl ⟨s13, s14, rfl⟩, b0, b1, b2, b3, b4, b5, b6, b7, b8, b9, b10, b11, b12, b15⟩, d9, v1, v2, v3⟩⟩
  · rw [s13, if_neg (show ¬ (1 : Int32) = 0 by decide), t15]
    simp only [cb_let_e, if_true]
    apply s_W8
    exact ⟨h1, h2, h3, h4, ⟨d6, d7, ⟨a0, a1, a2, a3, a4, a5, a6, a7, a8, rfl, a10, a11, a12, a15, Or.inl ⟨rfl, s14, rfl⟩, b0, b1, b2, b3, b4, b5, b6, b7, b8, hv, b10, b11, b12, b15⟩, d9, v1, v2, v3⟩⟩
  · rw [s13, if_pos rfl, s14, if_neg (show ¬ (1 : Int32) = 0 by decide), t15]
    simp only [cb_let_e, if_neg (show ¬ (2 : Int32) = 1 by decide), if_true]
    apply s_W8
    exact ⟨h1, h2, h3, h4, ⟨d6, d7, ⟨a0, a1, a2, a3, a4, a5, a6, a7, a8, a9, rfl, a11, a12, a15, Or.inl ⟨s13, rfl, rfl⟩, b0, b1, b2, b3, b4, b5, b6, b7, b8, b9, hv, b11, b12, b15⟩, d9, v1, v2, v3⟩⟩
theorem m_da8 (v : Int32) : m_outTo τ (nI 2) v = cb_let (cb_up τ 21 0 v) fun τ3 => cb_let (cb_up τ3 20 0 (if τ3 20 0 = 0 then (if τ3 13 0 = 0 then (1 : Int32) else 0) else 1)) fun τ7 => some τ7 := rfl
theorem s_da8 (h : cb_R g σ τ) {v : Int32} (hv : cb_by v) : cb_Sv (c_Port_takeData 8 σ v) (m_outTo τ (nI 2) v) (cb_R g) := by
  obtain ⟨h1, h2, h3, h4, ⟨d6, d7, ⟨a0, a1, a2, a3, a4, a5, a6, a7, a8, a9, a10, a11, a12, a15, sc, b0, b1, b2, b3, b4, b5, b6, b7, b8, b9, b10, b11, b12, b15⟩, d9, v1, v2, v3⟩⟩ := h
  rw [m_da8]
  unfold c_Port_takeData
  rw [cb_let_e, cb_let_e, cb_let_e]
  have r1 : cb_up σ 8 6 v 8 4 = σ 8 4 := rfl
  have r2 : cb_up τ 21 0 v 20 0 = τ 20 0 := rfl
  have r3 : cb_up τ 21 0 v 13 0 = τ 13 0 := rfl
  rw [r1, r2, r3, ← a4, ← a5]
  by_cases e : σ 8 4 = 0
  · rw [if_pos e, if_pos e, cb_let_e]
    have e2 : (if σ 8 5 = 0 then (1 : Int32) else 1) = 1 := by split <;> rfl
    rw [e2]
    refine ⟨_, _, rfl, rfl, ?_⟩
    exact ⟨h1, h2, h3, h4, ⟨d6, d7, ⟨a0, a1, a2, a3, a4, rfl, rfl, a7, a8, a9, a10, a11, a12, a15, sc, b0, b1, b2, b3, b4, Or.inr rfl, hv, b7, b8, b9, b10, b11, b12, b15⟩, d9, v1, v2, v3⟩⟩
  · rw [if_neg e, if_neg e, z01 b5]
    refine ⟨_, _, rfl, rfl, ?_⟩
    exact ⟨h1, h2, h3, h4, ⟨d6, d7, ⟨a0, a1, a2, a3, a4, rfl, rfl, a7, a8, a9, a10, a11, a12, a15, sc, b0, b1, b2, b3, b4, b5, hv, b7, b8, b9, b10, b11, b12, b15⟩, d9, v1, v2, v3⟩⟩
theorem m_in8 : m_inFrom τ (nI 2) = if τ 13 0 = (1 : Int32) then cb_let (cb_up τ 20 0 1) fun τ9 => some (τ9 22 0, τ9) else some ((if τ 13 0 = 0 then τ 21 0 else ((τ 23 0 &&& τ 16 0) ||| (τ 21 0 &&& (τ 16 0 ^^^ (-1))))), τ) := rfl
theorem s_in8 (h : cb_R g σ τ) : cb_Sm (c_Port_giveData 8 σ) (m_inFrom τ (nI 2)) (fun r σ τ => cb_by r ∧ cb_R g σ τ) := by
  have H := h
  obtain ⟨h1, h2, h3, h4, ⟨d6, d7, ⟨a0, a1, a2, a3, a4, a5, a6, a7, a8, a9, a10, a11, a12, a15, sc, b0, b1, b2, b3, b4, b5, b6, b7, b8, b9, b10, b11, b12, b15⟩, d9, v1, v2, v3⟩⟩ := h
  rw [m_in8, ← a4]
  unfold c_Port_giveData
  by_cases e0 : σ 8 4 = 0
  · rw [if_pos e0, if_neg (show ¬ σ 8 4 = 1 by rw [e0]; decide), if_pos e0, ← a6]
    exact ⟨_, _, _, rfl, rfl, b6, H⟩
  · rw [if_neg e0]
    by_cases e1 : σ 8 4 = 1
    · rw [if_pos e1, if_pos e1, cb_let_e, cb_let_e]
      have r1 : cb_up σ 8 5 1 8 7 = σ 8 7 := rfl
      have r2 : cb_up τ 20 0 1 22 0 = τ 22 0 := rfl
      rw [r1, r2, ← a7]
      exact ⟨_, _, _, rfl, rfl, b7, ⟨h1, h2, h3, h4, ⟨d6, d7, ⟨a0, a1, a2, a3, a4, rfl, a6, a7, a8, a9, a10, a11, a12, a15, sc, b0, b1, b2, b3, b4, Or.inr rfl, b6, b7, b8, b9, b10, b11, b12, b15⟩, d9, v1, v2, v3⟩⟩⟩
    · rw [if_neg e1, if_neg e1, if_neg e0, ← a8, ← a9, ← a6]
      refine ⟨_, _, _, rfl, rfl, ?_, H⟩
      obtain ⟨x, hx, e8⟩ := by_and (y := σ 8 9) b8
      obtain ⟨y, hy, e6⟩ := by_and (y := σ 8 9 ^^^ (-1)) b6
      rw [e8, e6, cb_or_n]
      exact ⟨x ||| y, Nat.or_lt_two_pow (n := 8) hx hy, rfl⟩

theorem s_W9 {v : Int32} (h : cb_R g σ τ) : cb_Sv (c_Port_takeControl_L59 9 v σ) (m_portControl_L267 (nI 1) v τ) (cb_R g) := sv_id (s_look9 h)
theorem m_pc9 (v : Int32) : m_portControl τ (nI 1) v = cb_let (τ 15 1) fun t3 => cb_let (cb_up τ 15 1 0) fun τ5 => if t3 = (1 : Int32) then cb_let (cb_up τ5 16 1 v) fun τ46 => m_portControl_L267 (nI 1) v τ46 else (if t3 = (2 : Int32) then cb_let (cb_up τ5 17 1 v) fun τ44 => m_portControl_L267 (nI 1) v τ44 else (if (v &&& (1 : Int32)) = 0 then cb_let (cb_up τ5 14 1 v) fun τ42 => m_portControl_L267 (nI 1) v τ42 else (if (v &&& (15 : Int32)) = (15 : Int32) then cb_let (cb_up τ5 13 1 (if (v >>> ((6 : Int32) &&& 31)) = (2 : Int32) then (3 : Int32) else (v >>> ((6 : Int32) &&& 31)))) fun τ35 => cb_let (cb_up τ35 20 1 0) fun τ37 => cb_let (cb_up τ37 15 1 (if τ37 13 1 = (3 : Int32) then (1 : Int32) else 0)) fun τ40 => m_portControl_L267 (nI 1) v τ40 else (if (v &&& (15 : Int32)) = (7 : Int32) then cb_let (cb_up τ5 5 3 (if v ≤ (127 : Int32) then (0 : Int32) else 1)) fun τ19 => cb_let (cb_up τ19 18 1 (if (v &&& (64 : Int32)) = 0 then (0 : Int32) else 1)) fun τ22 => cb_let (cb_up τ22 19 1 (if (v &&& (32 : Int32)) = 0 then (0 : Int32) else 1)) fun τ25 => cb_let (cb_up τ25 15 1 (if (v &&& (16 : Int32)) = 0 then (0 : Int32) else 2)) fun τ28 => cb_let (cb_up τ28 3 3 (if τ28 3 3 = 0 then (0 : Int32) else (if τ28 15 1 = 0 then (1 : Int32) else 0))) fun τ32 => m_portControl_L267 (nI 1) v τ32 else (if (v &&& (15 : Int32)) = (3 : Int32) then cb_let (cb_up τ5 5 3 (if v ≤ (127 : Int32) then (0 : Int32) else 1)) fun τ15 => m_portControl_L267 (nI 1) v τ15 else m_portControl_L267 (nI 1) v τ5))))) := rfl
theorem s_pc9 (h : cb_R g σ τ) {b : Nat} (hb : b < 256) : cb_Sv (c_Port_takeControl 9 σ (nI b)) (m_portControl τ (nI 1) (nI b)) (cb_R g) := by
  have q127 := s127b b hb
  have qM := md_by b hb
  have hv : cb_by (nI b) := ⟨b, hb, rfl⟩
  obtain ⟨v, ev⟩ : ∃ v, nI b = v := ⟨_, rfl⟩
  rw [ev] at q127 qM hv ⊢
  obtain ⟨h1, h2, h3, h4, ⟨d6, d7, d8, ⟨a0, a1, a2, a3, a4, a5, a6, a7, a8, a9, a10, a11, a12, a15, sc, b0, b1, b2, b3, b4, b5, b6, b7, b8, b9, b10, b11, b12, b15⟩, v1, v2, v3⟩⟩ := h
  rw [m_pc9]
  unfold c_Port_takeControl
  rcases sc with ⟨s13, s14, t15⟩ | ⟨s13, s14, t15⟩ | ⟨s13, s14, t15⟩
  · rw [s13, if_pos rfl, s14, if_pos rfl, t15]
    simp only [cb_let_e]
    rw [if_neg (show ¬ (0 : Int32) = 1 by decide), if_neg (show ¬ (0 : Int32) = 2 by decide)]
    by_cases x1 : v &&& 1 = 0
    · rw [if_pos x1, if_pos x1]
      apply s_W9
      exact ⟨h1, h2, h3, h4, ⟨d6, d7, d8, ⟨a0, a1, a2, rfl, a4, a5, a6, a7, a8, a9, a10, a11, a12, a15, Or.inl ⟨s13, s14, rfl⟩, b0, b1, b2, hv, b4, b5, b6, b7, b8, b9, b10, b11, b12, b15⟩, v1, v2, v3⟩⟩
    · rw [if_neg x1, if_neg x1]
      unfold c_Port_takeCommand
      by_cases x15 : v &&& 15 = 15
      · simp only [if_pos x15, if_neg (show ¬ v &&& 15 = 3 by rw [x15]; decide), if_neg (show ¬ v &&& 15 = 7 by rw [x15]; decide), cb_let_e, cb_bo_some]
        generalize (if (v >>> ((6 : Int32) &&& 31)) = (2 : Int32) then (3 : Int32) else (v >>> ((6 : Int32) &&& 31))) = M at qM ⊢
        apply s_W9
        refine ⟨h1, h2, h3, h4, ⟨d6, d7, d8, ⟨a0, a1, a2, a3, rfl, rfl, a6, a7, a8, a9, a10, a11, a12, a15, ?_, b0, b1, b2, b3, qM, Or.inl rfl, b6, b7, b8, b9, b10, b11, b12, b15⟩, v1, v2, v3⟩⟩
        by_cases m3 : M = 3
        · exact Or.inr (Or.inl ⟨if_pos m3, s14, if_pos m3⟩)
        · exact Or.inl ⟨if_neg m3, s14, if_neg m3⟩
      · simp only [if_neg x15]
        by_cases x7 : v &&& 15 = 7
        · simp only [if_pos x7, if_neg (show ¬ v &&& 15 = 3 by rw [x7]; decide), q127]
          by_cases x16 : v &&& 16 = 0
          · simp only [cb_let_e, if_pos x16, cb_bo_some]
            apply s_W9
            refine ⟨h1, h2, h3, h4, ⟨d6, d7, d8, ⟨rfl, ?_, a2, a3, a4, a5, a6, a7, a8, a9, a10, rfl, rfl, a15, Or.inl ⟨s13, s14, rfl⟩, i01, b1, b2, b3, b4, b5, b6, b7, b8, b9, b10, i01, i01, b15⟩, v1, v2, v3⟩⟩
            show σ 9 1 = if τ 3 3 = 0 then (0 : Int32) else (if (0 : Int32) = 0 then (1 : Int32) else 0)
            rw [if_pos rfl, ← a1, z01 b1]
          · simp only [cb_let_e, if_neg x16, cb_bo_some]
            apply s_W9
            refine ⟨h1, h2, h3, h4, ⟨d6, d7, d8, ⟨rfl, ?_, a2, a3, a4, a5, a6, a7, a8, a9, a10, rfl, rfl, a15, Or.inr (Or.inr ⟨s13, rfl, rfl⟩), i01, Or.inl rfl, b2, b3, b4, b5, b6, b7, b8, b9, b10, i01, i01, b15⟩, v1, v2, v3⟩⟩
            show (0 : Int32) = if τ 3 3 = 0 then (0 : Int32) else (if (2 : Int32) = 0 then (1 : Int32) else 0)
            rw [if_neg (show ¬ (2 : Int32) = 0 by decide)]
            split <;> rfl
        · simp only [if_neg x7]
          by_cases x3 : v &&& 15 = 3
          · simp only [if_pos x3, q127, cb_let_e, cb_bo_some]
            apply s_W9
            exact ⟨h1, h2, h3, h4, ⟨d6, d7, d8, ⟨rfl, a1, a2, a3, a4, a5, a6, a7, a8, a9, a10, a11, a12, a15, Or.inl ⟨s13, s14, rfl⟩, i01, b1, b2, b3, b4, b5, b6, b7, b8, b9, b10, b11, b12, b15⟩, v1, v2, v3⟩⟩
          · simp only [if_neg x3, cb_bo_some]
            apply s_W9
            exact ⟨h1, h2, h3, h4, ⟨d6, d7, d8, ⟨a0, a1, a2, a3, a4, a5, a6, a7, a8, a9, a10, a11, a12, a15, Or.inl ⟨s13, s14, rfl⟩, b0, b1, b2, b3, b4, b5, b6, b7, b8, b9, b10, b11, b12, b15⟩, v1, v2, v3⟩⟩
  · rw [s13, if_neg (show ¬ (1 : Int32) = 0 by decide), t15]
    simp only [cb_let_e, if_true]
    apply s_W9
    exact ⟨h1, h2, h3, h4, ⟨d6, d7, d8, ⟨a0, a1, a2, a3, a4, a5, a6, a7, a8, rfl, a10, a11, a12, a15, Or.inl ⟨rfl, s14, rfl⟩, b0, b1, b2, b3, b4, b5, b6, b7, b8, hv, b10, b11, b12, b15⟩, v1, v2, v3⟩⟩
  · rw [s13, if_pos rfl, s14, if_neg (show ¬ (1 : Int32) = 0 by decide), t15]
    simp only [cb_let_e, if_neg (show ¬ (2 : Int32) = 1 by decide), if_true]
    apply s_W9
    exact ⟨h1, h2, h3, h4, ⟨d6, d7, d8, ⟨a0, a1, a2, a3, a4, a5, a6, a7, a8, a9, rfl, a11, a12, a15, Or.inl ⟨s13, rfl, rfl⟩, b0, b1, b2, b3, b4, b5, b6, b7, b8, b9, hv, b11, b12, b15⟩, v1, v2, v3⟩⟩
theorem m_da9 (v : Int32) : m_outTo τ (nI 4) v = cb_let (cb_up τ 21 1 v) fun τ3 => cb_let (cb_up τ3 20 1 (if τ3 20 1 = 0 then (if τ3 13 1 = 0 then (1 : Int32) else 0) else 1)) fun τ7 => some τ7 := rfl
theorem s_da9 (h : cb_R g σ τ) {v : Int32} (hv : cb_by v) : cb_Sv (c_Port_takeData 9 σ v) (m_outTo τ (nI 4) v) (cb_R g) := by
  obtain ⟨h1, h2, h3, h4, ⟨d6, d7, d8, ⟨a0, a1, a2, a3, a4, a5, a6, a7, a8, a9, a10, a11, a12, a15, sc, b0, b1, b2, b3, b4, b5, b6, b7, b8, b9, b10, b11, b12, b15⟩, v1, v2, v3⟩⟩ := h
  rw [m_da9]
  unfold c_Port_takeData
  rw [cb_let_e, cb_let_e, cb_let_e]
  have r1 : cb_up σ 9 6 v 9 4 = σ 9 4 := rfl
  have r2 : cb_up τ 21 1 v 20 1 = τ 20 1 := rfl
  have r3 : cb_up τ 21 1 v 13 1 = τ 13 1 := rfl
  rw [r1, r2, r3, ← a4, ← a5]
  by_cases e : σ 9 4 = 0
  · rw [if_pos e, if_pos e, cb_let_e]
    have e2 : (if σ 9 5 = 0 then (1 : Int32) else 1) = 1 := by split <;> rfl
    rw [e2]
    refine ⟨_, _, rfl, rfl, ?_⟩
    exact ⟨h1, h2, h3, h4, ⟨d6, d7, d8, ⟨a0, a1, a2, a3, a4, rfl, rfl, a7, a8, a9, a10, a11, a12, a15, sc, b0, b1, b2, b3, b4, Or.inr rfl, hv, b7, b8, b9, b10, b11, b12, b15⟩, v1, v2, v3⟩⟩
  · rw [if_neg e, if_neg e, z01 b5]
    refine ⟨_, _, rfl, rfl, ?_⟩
    exact ⟨h1, h2, h3, h4, ⟨d6, d7, d8, ⟨a0, a1, a2, a3, a4, rfl, rfl, a7, a8, a9, a10, a11, a12, a15, sc, b0, b1, b2, b3, b4, b5, hv, b7, b8, b9, b10, b11, b12, b15⟩, v1, v2, v3⟩⟩
theorem m_in9 : m_inFrom τ (nI 4) = if τ 13 1 = (1 : Int32) then cb_let (cb_up τ 20 1 1) fun τ9 => some (τ9 22 1, τ9) else some ((if τ 13 1 = 0 then τ 21 1 else ((τ 23 1 &&& τ 16 1) ||| (τ 21 1 &&& (τ 16 1 ^^^ (-1))))), τ) := rfl
theorem s_in9 (h : cb_R g σ τ) : cb_Sm (c_Port_giveData 9 σ) (m_inFrom τ (nI 4)) (fun r σ τ => cb_by r ∧ cb_R g σ τ) := by
  have H := h
  obtain ⟨h1, h2, h3, h4, ⟨d6, d7, d8, ⟨a0, a1, a2, a3, a4, a5, a6, a7, a8, a9, a10, a11, a12, a15, sc, b0, b1, b2, b3, b4, b5, b6, b7, b8, b9, b10, b11, b12, b15⟩, v1, v2, v3⟩⟩ := h
  rw [m_in9, ← a4]
  unfold c_Port_giveData
  by_cases e0 : σ 9 4 = 0
  · rw [if_pos e0, if_neg (show ¬ σ 9 4 = 1 by rw [e0]; decide), if_pos e0, ← a6]
    exact ⟨_, _, _, rfl, rfl, b6, H⟩
  · rw [if_neg e0]
    by_cases e1 : σ 9 4 = 1
    · rw [if_pos e1, if_pos e1, cb_let_e, cb_let_e]
      have r1 : cb_up σ 9 5 1 9 7 = σ 9 7 := rfl
      have r2 : cb_up τ 20 1 1 22 1 = τ 22 1 := rfl
      rw [r1, r2, ← a7]
      exact ⟨_, _, _, rfl, rfl, b7, ⟨h1, h2, h3, h4, ⟨d6, d7, d8, ⟨a0, a1, a2, a3, a4, rfl, a6, a7, a8, a9, a10, a11, a12, a15, sc, b0, b1, b2, b3, b4, Or.inr rfl, b6, b7, b8, b9, b10, b11, b12, b15⟩, v1, v2, v3⟩⟩⟩
    · rw [if_neg e1, if_neg e1, if_neg e0, ← a8, ← a9, ← a6]
      refine ⟨_, _, _, rfl, rfl, ?_, H⟩
      obtain ⟨x, hx, e8⟩ := by_and (y := σ 9 9) b8
      obtain ⟨y, hy, e6⟩ := by_and (y := σ 9 9 ^^^ (-1)) b6
      rw [e8, e6, cb_or_n]
      exact ⟨x ||| y, Nat.or_lt_two_pow (n := 8) hx hy, rfl⟩

theorem m_co6 (v : Int32) : m_control τ (nI 0) v = if τ 12 0 = 0 then (if (v &&& (1 : Int32)) = 0 then some (cb_up τ 0 15 (v &&& (248 : Int32))) else cb_let (cb_up τ 5 0 (if (v &&& (128 : Int32)) = 0 then (0 : Int32) else 1)) fun τ6 => cb_let (cb_up τ6 3 0 (if τ6 3 0 = 0 then (0 : Int32) else (if τ6 5 0 = 0 then (0 : Int32) else 1))) fun τ10 => cb_let (cb_up τ10 10 0 (if (v &&& (64 : Int32)) = 0 then (0 : Int32) else 1)) fun τ13 => cb_let (cb_up τ13 11 0 (if (v &&& (32 : Int32)) = 0 then (16 : Int32) else 256)) fun τ16 => cb_let (cb_up τ16 12 0 (if (v &&& (4 : Int32)) = 0 then (0 : Int32) else 1)) fun τ19 => cb_let (cb_up τ19 9 0 (if τ19 9 0 = 0 then (0 : Int32) else (if (v &&& (2 : Int32)) = 0 then (1 : Int32) else 0))) fun τ23 => some (cb_up τ23 8 0 0)) else cb_let (cb_up τ 6 0 (if v = 0 then (256 : Int32) else v)) fun τ30 => cb_let (cb_up τ30 7 0 (τ30 6 0)) fun τ32 => cb_let (cb_up τ32 8 0 0) fun τ34 => cb_let (cb_up τ34 9 0 1) fun τ36 => some (cb_up τ36 12 0 0) := rfl
theorem cb_up_id6 (σ' : cb_S) {B C D : Int32} : cb_up (cb_up (cb_up (cb_up σ' 6 8 B) 6 9 C) 6 10 D) 6 6 0 = cb_up (cb_up (cb_up (cb_up (cb_up σ' 6 8 B) 6 9 C) 6 10 D) 6 7 (σ' 6 7)) 6 6 0 := by
  rw [show cb_up (cb_up (cb_up (cb_up σ' 6 8 B) 6 9 C) 6 10 D) 6 7 (σ' 6 7) = cb_up (cb_up (cb_up σ' 6 8 B) 6 9 C) 6 10 D from cb_up_self _ _ _ rfl]
theorem s_co6 (h : cb_R g σ τ) {b : Nat} (hb : b < 256) : cb_Sv (c_Chain_toChannel 6 σ (nI b)) (m_control τ (nI 0) (nI b)) (cb_R g) := by
  have q248 := and248 b hb
  obtain ⟨v, ev⟩ : ∃ v, nI b = v := ⟨_, rfl⟩
  rw [ev] at q248 ⊢
  obtain ⟨h1, h2, h3, h4, ⟨⟨a0, a1, a2, a4, a5, a6, a7, a8, a10, sc, b0, b1, b2, b7, b8, b10⟩, d7, d8, d9, v1, v2, v3⟩⟩ := h
  rw [m_co6, ← a10]
  unfold c_Chain_toChannel c_Channel_takeByte
  by_cases e10 : σ 6 10 = 0
  · rw [if_pos e10, if_pos e10]
    by_cases x1 : v &&& 1 = 0
    · rw [if_pos x1, if_pos x1]
      exact ⟨_, _, rfl, rfl, ⟨h1, h2, h3, h4, ⟨⟨a0, a1, a2, a4, a5, a6, a7, a8, a10, sc, b0, b1, b2, b7, b8, b10⟩, d7, d8, d9, rfl, rfl, q248⟩⟩⟩
    · rw [if_neg x1, if_neg x1]
      obtain ⟨B, eB⟩ : ∃ B, (if (v &&& (64 : Int32)) = 0 then (0 : Int32) else 1) = B := ⟨_, rfl⟩
      have hB : cb_01 B := by rw [← eB]; exact i01
      obtain ⟨D, eD⟩ : ∃ D, (if (v &&& (4 : Int32)) = 0 then (0 : Int32) else 1) = D := ⟨_, rfl⟩
      have hD : cb_01 D := by rw [← eD]; exact i01
      have hsc : ((if (v &&& (32 : Int32)) = 0 then (0 : Int32) else 1) = 0 ∧ (if (v &&& (32 : Int32)) = 0 then (16 : Int32) else 256) = 16 ∧ ∃ n : Nat, n < 16 ∧ (0 : Int32) = nI n) ∨ ((if (v &&& (32 : Int32)) = 0 then (0 : Int32) else 1) = 1 ∧ (if (v &&& (32 : Int32)) = 0 then (16 : Int32) else 256) = 256 ∧ ∃ n : Nat, n < 256 ∧ (0 : Int32) = nI n) := by
        by_cases x : v &&& 32 = 0
        · exact Or.inl ⟨if_pos x, if_pos x, 0, by omega, rfl⟩
        · exact Or.inr ⟨if_neg x, if_neg x, 0, by omega, rfl⟩
      have h7 : cb_01 (if (v &&& (2 : Int32)) = 0 then σ 6 7 else 0) := by
        split
        · exact b7
        · exact Or.inl rfl
      have e7 : (if (v &&& (2 : Int32)) = 0 then σ 6 7 else 0) = if τ 9 0 = 0 then (0 : Int32) else (if (v &&& (2 : Int32)) = 0 then (1 : Int32) else 0) := by
        rw [← a7]
        by_cases x : v &&& 2 = 0
        · rw [if_pos x, if_pos x, z01 b7]
        · rw [if_neg x, if_neg x]; split <;> rfl
      have cc : ∀ σ' : cb_S, c_Channel_takeControl_L29 6 v σ' = some (cb_up (cb_up (cb_up (cb_up (cb_up σ' 6 8 B) 6 9 (if (v &&& (32 : Int32)) = 0 then (0 : Int32) else 1)) 6 10 D) 6 7 (if (v &&& (2 : Int32)) = 0 then σ' 6 7 else 0)) 6 6 0) := by
        intro σ'
        unfold c_Channel_takeControl_L29 c_Channel_takeControl_L87
        simp only [cb_let_e, eB, eD]
        by_cases x : v &&& 2 = 0
        · rw [if_pos x, if_pos x, cb_up_id6 σ']
        · rw [if_neg x, if_neg x]
      simp only [eB, eD]
      by_cases x128 : v &&& 128 = 0
      · have c1 : c_Channel_takeControl 6 σ v = c_Channel_takeControl_L29 6 v (cb_up (cb_up σ 6 0 0) 6 1 0) := by
          unfold c_Channel_takeControl
          rw [if_pos x128]; rfl
        rw [c1, cc, if_pos x128]
        refine ⟨_, _, rfl, rfl, ?_⟩
        refine ⟨h1, h2, h3, h4, ⟨⟨rfl, ?_, a2, a4, a5, rfl, e7, rfl, rfl, hsc, Or.inl rfl, Or.inl rfl, b2, h7, hB, hD⟩, d7, d8, d9, v1, v2, v3⟩⟩
        show (0 : Int32) = if τ 3 0 = 0 then (0 : Int32) else (if (0 : Int32) = 0 then (0 : Int32) else 1)
        rw [if_pos rfl]; split <;> rfl
      · have c1 : c_Channel_takeControl 6 σ v = c_Channel_takeControl_L29 6 v (cb_up σ 6 0 1) := by
          unfold c_Channel_takeControl
          rw [if_neg x128]; rfl
        rw [c1, cc, if_neg x128]
        refine ⟨_, _, rfl, rfl, ?_⟩
        refine ⟨h1, h2, h3, h4, ⟨⟨rfl, ?_, a2, a4, a5, rfl, e7, rfl, rfl, hsc, Or.inr rfl, b1, b2, h7, hB, hD⟩, d7, d8, d9, v1, v2, v3⟩⟩
        show σ 6 1 = if τ 3 0 = 0 then (0 : Int32) else (if (1 : Int32) = 0 then (0 : Int32) else 1)
        rw [if_neg (show ¬ (1 : Int32) = 0 by decide), ← a1, z01 b1]
  · rw [if_neg e10, if_neg e10]
    refine ⟨_, _, rfl, rfl, ?_⟩
    refine ⟨h1, h2, h3, h4, ⟨⟨a0, a1, a2, rfl, rfl, rfl, rfl, a8, rfl, ?_, b0, b1, b2, Or.inr rfl, b8, Or.inl rfl⟩, d7, d8, d9, v1, v2, v3⟩⟩
    rcases sc with ⟨s1, s2, -⟩ | ⟨s1, s2, -⟩
    · exact Or.inl ⟨s1, s2, 0, by omega, rfl⟩
    · exact Or.inr ⟨s1, s2, 0, by omega, rfl⟩

theorem m_co7 (v : Int32) : m_control τ (nI 1) v = if τ 12 1 = 0 then (if (v &&& (1 : Int32)) = 0 then some (cb_up τ 0 15 (v &&& (248 : Int32))) else cb_let (cb_up τ 5 1 (if (v &&& (128 : Int32)) = 0 then (0 : Int32) else 1)) fun τ6 => cb_let (cb_up τ6 3 1 (if τ6 3 1 = 0 then (0 : Int32) else (if τ6 5 1 = 0 then (0 : Int32) else 1))) fun τ10 => cb_let (cb_up τ10 10 1 (if (v &&& (64 : Int32)) = 0 then (0 : Int32) else 1)) fun τ13 => cb_let (cb_up τ13 11 1 (if (v &&& (32 : Int32)) = 0 then (16 : Int32) else 256)) fun τ16 => cb_let (cb_up τ16 12 1 (if (v &&& (4 : Int32)) = 0 then (0 : Int32) else 1)) fun τ19 => cb_let (cb_up τ19 9 1 (if τ19 9 1 = 0 then (0 : Int32) else (if (v &&& (2 : Int32)) = 0 then (1 : Int32) else 0))) fun τ23 => some (cb_up τ23 8 1 0)) else cb_let (cb_up τ 6 1 (if v = 0 then (256 : Int32) else v)) fun τ30 => cb_let (cb_up τ30 7 1 (τ30 6 1)) fun τ32 => cb_let (cb_up τ32 8 1 0) fun τ34 => cb_let (cb_up τ34 9 1 1) fun τ36 => some (cb_up τ36 12 1 0) := rfl
theorem cb_up_id7 (σ' : cb_S) {B C D : Int32} : cb_up (cb_up (cb_up (cb_up σ' 7 8 B) 7 9 C) 7 10 D) 7 6 0 = cb_up (cb_up (cb_up (cb_up (cb_up σ' 7 8 B) 7 9 C) 7 10 D) 7 7 (σ' 7 7)) 7 6 0 := by
  rw [show cb_up (cb_up (cb_up (cb_up σ' 7 8 B) 7 9 C) 7 10 D) 7 7 (σ' 7 7) = cb_up (cb_up (cb_up σ' 7 8 B) 7 9 C) 7 10 D from cb_up_self _ _ _ rfl]
theorem s_co7 (h : cb_R g σ τ) {b : Nat} (hb : b < 256) : cb_Sv (c_Chain_toChannel 7 σ (nI b)) (m_control τ (nI 1) (nI b)) (cb_R g) := by
  have q248 := and248 b hb
  obtain ⟨v, ev⟩ : ∃ v, nI b = v := ⟨_, rfl⟩
  rw [ev] at q248 ⊢
  obtain ⟨h1, h2, h3, h4, ⟨d6, ⟨a0, a1, a2, a4, a5, a6, a7, a8, a10, sc, b0, b1, b2, b7, b8, b10⟩, d8, d9, v1, v2, v3⟩⟩ := h
  rw [m_co7, ← a10]
  unfold c_Chain_toChannel c_Channel_takeByte
  by_cases e10 : σ 7 10 = 0
  · rw [if_pos e10, if_pos e10]
    by_cases x1 : v &&& 1 = 0
    · rw [if_pos x1, if_pos x1]
      exact ⟨_, _, rfl, rfl, ⟨h1, h2, h3, h4, ⟨d6, ⟨a0, a1, a2, a4, a5, a6, a7, a8, a10, sc, b0, b1, b2, b7, b8, b10⟩, d8, d9, rfl, rfl, q248⟩⟩⟩
    · rw [if_neg x1, if_neg x1]
      obtain ⟨B, eB⟩ : ∃ B, (if (v &&& (64 : Int32)) = 0 then (0 : Int32) else 1) = B := ⟨_, rfl⟩
      have hB : cb_01 B := by rw [← eB]; exact i01
      obtain ⟨D, eD⟩ : ∃ D, (if (v &&& (4 : Int32)) = 0 then (0 : Int32) else 1) = D := ⟨_, rfl⟩
      have hD : cb_01 D := by rw [← eD]; exact i01
      have hsc : ((if (v &&& (32 : Int32)) = 0 then (0 : Int32) else 1) = 0 ∧ (if (v &&& (32 : Int32)) = 0 then (16 : Int32) else 256) = 16 ∧ ∃ n : Nat, n < 16 ∧ (0 : Int32) = nI n) ∨ ((if (v &&& (32 : Int32)) = 0 then (0 : Int32) else 1) = 1 ∧ (if (v &&& (32 : Int32)) = 0 then (16 : Int32) else 256) = 256 ∧ ∃ n : Nat, n < 256 ∧ (0 : Int32) = nI n) := by
        by_cases x : v &&& 32 = 0
        · exact Or.inl ⟨if_pos x, if_pos x, 0, by omega, rfl⟩
        · exact Or.inr ⟨if_neg x, if_neg x, 0, by omega, rfl⟩
      have h7 : cb_01 (if (v &&& (2 : Int32)) = 0 then σ 7 7 else 0) := by
        split
        · exact b7
        · exact Or.inl rfl
      have e7 : (if (v &&& (2 : Int32)) = 0 then σ 7 7 else 0) = if τ 9 1 = 0 then (0 : Int32) else (if (v &&& (2 : Int32)) = 0 then (1 : Int32) else 0) := by
        rw [← a7]
        by_cases x : v &&& 2 = 0
        · rw [if_pos x, if_pos x, z01 b7]
        · rw [if_neg x, if_neg x]; split <;> rfl
      have cc : ∀ σ' : cb_S, c_Channel_takeControl_L29 7 v σ' = some (cb_up (cb_up (cb_up (cb_up (cb_up σ' 7 8 B) 7 9 (if (v &&& (32 : Int32)) = 0 then (0 : Int32) else 1)) 7 10 D) 7 7 (if (v &&& (2 : Int32)) = 0 then σ' 7 7 else 0)) 7 6 0) := by
        intro σ'
        unfold c_Channel_takeControl_L29 c_Channel_takeControl_L87
        simp only [cb_let_e, eB, eD]
        by_cases x : v &&& 2 = 0
        · rw [if_pos x, if_pos x, cb_up_id7 σ']
        · rw [if_neg x, if_neg x]
      simp only [eB, eD]
      by_cases x128 : v &&& 128 = 0
      · have c1 : c_Channel_takeControl 7 σ v = c_Channel_takeControl_L29 7 v (cb_up (cb_up σ 7 0 0) 7 1 0) := by
          unfold c_Channel_takeControl
          rw [if_pos x128]; rfl
        rw [c1, cc, if_pos x128]
        refine ⟨_, _, rfl, rfl, ?_⟩
        refine ⟨h1, h2, h3, h4, ⟨d6, ⟨rfl, ?_, a2, a4, a5, rfl, e7, rfl, rfl, hsc, Or.inl rfl, Or.inl rfl, b2, h7, hB, hD⟩, d8, d9, v1, v2, v3⟩⟩
        show (0 : Int32) = if τ 3 1 = 0 then (0 : Int32) else (if (0 : Int32) = 0 then (0 : Int32) else 1)
        rw [if_pos rfl]; split <;> rfl
      · have c1 : c_Channel_takeControl 7 σ v = c_Channel_takeControl_L29 7 v (cb_up σ 7 0 1) := by
          unfold c_Channel_takeControl
          rw [if_neg x128]; rfl
        rw [c1, cc, if_neg x128]
        refine ⟨_, _, rfl, rfl, ?_⟩
        refine ⟨h1, h2, h3, h4, ⟨d6, ⟨rfl, ?_, a2, a4, a5, rfl, e7, rfl, rfl, hsc, Or.inr rfl, b1, b2, h7, hB, hD⟩, d8, d9, v1, v2, v3⟩⟩
        show σ 7 1 = if τ 3 1 = 0 then (0 : Int32) else (if (1 : Int32) = 0 then (0 : Int32) else 1)
        rw [if_neg (show ¬ (1 : Int32) = 0 by decide), ← a1, z01 b1]
  · rw [if_neg e10, if_neg e10]
    refine ⟨_, _, rfl, rfl, ?_⟩
    refine ⟨h1, h2, h3, h4, ⟨d6, ⟨a0, a1, a2, rfl, rfl, rfl, rfl, a8, rfl, ?_, b0, b1, b2, Or.inr rfl, b8, Or.inl rfl⟩, d8, d9, v1, v2, v3⟩⟩
    rcases sc with ⟨s1, s2, -⟩ | ⟨s1, s2, -⟩
    · exact Or.inl ⟨s1, s2, 0, by omega, rfl⟩
    · exact Or.inr ⟨s1, s2, 0, by omega, rfl⟩

theorem out_c : ∀ p, p < 256 → p = 0 ∨ p = 1 ∨ p = 2 ∨ p = 3 ∨ p = 4 ∨ p = 5 ∨ 6 ≤ p := by omega
theorem s_out (h : cb_R g σ τ) {p b : Nat} (hp : p < 256) (hb : b < 256) : cb_Sv (c_Chain_output σ (nI p) (nI b)) (m_outTo τ (nI p) (nI b)) (cb_R g) := by
  rcases out_c p hp with rfl | rfl | rfl | rfl | rfl | rfl | h6
  · exact sv_id (s_co6 h hb)
  · exact sv_id (s_co7 h hb)
  · obtain ⟨a, c, q1, q2, q3⟩ := s_da8 (v := nI b) h ⟨b, hb, rfl⟩
    exact ⟨a, c, by show (cb_bo (c_Port_takeData 8 σ (nI b)) fun σ => some σ) = _; rw [q1]; rfl, q2, q3⟩
  · exact sv_id (s_pc8 h hb)
  · obtain ⟨a, c, q1, q2, q3⟩ := s_da9 (v := nI b) h ⟨b, hb, rfl⟩
    exact ⟨a, c, by show (cb_bo (c_Port_takeData 9 σ (nI b)) fun σ => some σ) = _; rw [q1]; rfl, q2, q3⟩
  · exact sv_id (s_pc9 h hb)
  · have nq : ∀ c : Nat, c < 6 → ¬ nI p = nI c := fun c hc q => by have := (nI_eq (a := p) (b := c) (by omega) (by omega)).mp q; omega
    have l2 : (2 : Int32) ≤ nI p := (nI_leI (a := 2) (b := p) (by omega) (by omega)).mpr (by omega)
    have l6 : (6 : Int32) ≤ nI p := (nI_leI (a := 6) (b := p) (by omega) (by omega)).mpr (by omega)
    have n0 : ¬ nI p = 0 := nq 0 (by omega)
    have n1 : ¬ nI p = 1 := nq 1 (by omega)
    have n2 : ¬ nI p = 2 := nq 2 (by omega)
    have n3 : ¬ nI p = 3 := nq 3 (by omega)
    have n4 : ¬ nI p = 4 := nq 4 (by omega)
    have n5 : ¬ nI p = 5 := nq 5 (by omega)
    refine ⟨σ, τ, ?_, ?_, h⟩
    · unfold c_Chain_output
      rw [if_neg n0, if_neg n1, if_neg n2, if_neg n3, if_neg n4, if_neg n5]
    · unfold m_outTo m_outTo_L40
      rw [if_pos l2, if_pos l6, if_pos l6]
theorem s_inp (h : cb_R g σ τ) {p : Nat} (hp : p < 256) : cb_Sm (c_Chain_input σ (nI p)) (m_inFrom τ (nI p)) (fun r σ τ => cb_by r ∧ cb_R g σ τ) := by
  have H := h
  rcases out_c p hp with rfl | rfl | rfl | rfl | rfl | rfl | h6
  · show cb_Sm (some (σ 6 4 &&& 255, σ)) (some (τ 7 0 &&& 255, τ)) _
    rw [← show σ 6 4 = τ 7 0 from h.2.2.2.2.1.2.2.2.1]
    exact ⟨_, _, _, rfl, rfl, cb_255 _, H⟩
  · show cb_Sm (some (σ 7 4 &&& 255, σ)) (some (τ 7 1 &&& 255, τ)) _
    rw [← show σ 7 4 = τ 7 1 from h.2.2.2.2.2.1.2.2.2.1]
    exact ⟨_, _, _, rfl, rfl, cb_255 _, H⟩
  · exact s_wid (s_in8 h)
  · exact ⟨255, σ, τ, rfl, rfl, ⟨255, by omega, rfl⟩, H⟩
  · exact s_wid (s_in9 h)
  · exact ⟨255, σ, τ, rfl, rfl, ⟨255, by omega, rfl⟩, H⟩
  · have nq : ∀ c : Nat, c < 6 → ¬ nI p = nI c := fun c hc q => by have := (nI_eq (a := p) (b := c) (by omega) (by omega)).mp q; omega
    have l2 : (2 : Int32) ≤ nI p := (nI_leI (a := 2) (b := p) (by omega) (by omega)).mpr (by omega)
    have l5 : (5 : Int32) < nI p := (nI_ltI (a := 5) (b := p) (by omega) (by omega)).mpr (by omega)
    have n0 : ¬ nI p = 0 := nq 0 (by omega)
    have n1 : ¬ nI p = 1 := nq 1 (by omega)
    have n2 : ¬ nI p = 2 := nq 2 (by omega)
    have n3 : ¬ nI p = 3 := nq 3 (by omega)
    have n4 : ¬ nI p = 4 := nq 4 (by omega)
    refine ⟨255, σ, τ, ?_, ?_, ⟨255, by omega, rfl⟩, h⟩
    · unfold c_Chain_input
      rw [if_neg n0, if_neg n1, if_neg n2, if_neg n3, if_neg n4]
    · unfold m_inFrom
      rw [if_pos l2, if_pos l5]

end P20
