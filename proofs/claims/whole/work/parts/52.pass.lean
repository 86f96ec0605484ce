/-! the timers: the other side, and both together -/
section P23
variable {g : Int32 × Int32 × Int32} {σ τ : cb_S} {a b c : Nat → Int32}
def rqs (k : Nat) (τ : cb_S) : cb_S := if τ 5 k = 0 then τ else cb_up τ 3 k 1
def pf (k : Nat) (τ : cb_S) : Nat × cb_S := if τ 7 k - 1 ≤ 0 then (1, rqs k (cb_up (cb_up τ 7 k (τ 7 k - 1)) 7 k (τ 6 k))) else (0, cb_up τ 7 k (τ 7 k - 1))
theorem pf_01 (k : Nat) (τ : cb_S) : (pf k τ).1 = 0 ∨ (pf k τ).1 = 1 := by
  unfold pf
  by_cases e : τ 7 k - 1 ≤ 0
  · rw [if_pos e]; exact Or.inr rfl
  · rw [if_neg e]; exact Or.inl rfl
theorem m_rq0 (τ : cb_S) : m_request τ (nI 0) = some (rqs 0 τ) := by
  have w : m_request τ (nI 0) = if τ 5 0 = 0 then some τ else some (cb_up τ 3 0 1) := rfl
  rw [w]; unfold rqs
  by_cases e : τ 5 0 = 0
  · rw [if_pos e, if_pos e]
  · rw [if_neg e, if_neg e]
theorem m_rq1 (τ : cb_S) : m_request τ (nI 1) = some (rqs 1 τ) := by
  have w : m_request τ (nI 1) = if τ 5 1 = 0 then some τ else some (cb_up τ 3 1 1) := rfl
  rw [w]; unfold rqs
  by_cases e : τ 5 1 = 0
  · rw [if_pos e, if_pos e]
  · rw [if_neg e, if_neg e]
theorem m_f1 (τ : cb_S) : m_fall τ (nI 1) = some (pf 1 τ).2 := by
  have w : m_fall τ (nI 1) = if τ 7 1 - 1 ≤ 0 then cb_bo (m_request (cb_up (cb_up τ 7 1 (τ 7 1 - 1)) 7 1 (τ 6 1)) (nI 1)) (fun τ7 => some τ7) else some (cb_up τ 7 1 (τ 7 1 - 1)) := rfl
  rw [w, m_rq1]; unfold pf
  by_cases e : τ 7 1 - 1 ≤ 0
  · rw [if_pos e, if_pos e]; rfl
  · rw [if_neg e, if_neg e]
theorem m_f0 (τ : cb_S) : m_fall τ (nI 0) = some (if (pf 0 τ).1 = 0 then (pf 0 τ).2 else if (pf 0 τ).2 9 1 = 0 then (pf 0 τ).2 else if (pf 0 τ).2 10 1 = 0 then (pf 0 τ).2 else (pf 1 (pf 0 τ).2).2) := by
  have w : m_fall τ (nI 0) = if τ 7 0 - 1 ≤ 0 then cb_bo (m_request (cb_up (cb_up τ 7 0 (τ 7 0 - 1)) 7 0 (τ 6 0)) (nI 0)) (fun τ7 => if τ7 9 1 = 0 then some τ7 else (if τ7 10 1 = 0 then some τ7 else (if τ7 7 1 - 1 ≤ 0 then cb_bo (m_request (cb_up (cb_up τ7 7 1 (τ7 7 1 - 1)) 7 1 (τ7 6 1)) (nI 1)) (fun τ16 => some τ16) else some (cb_up τ7 7 1 (τ7 7 1 - 1))))) else some (cb_up τ 7 0 (τ 7 0 - 1)) := rfl
  rw [w, m_rq0]
  by_cases e : τ 7 0 - 1 ≤ 0
  · have e1 : (pf 0 τ) = (1, rqs 0 (cb_up (cb_up τ 7 0 (τ 7 0 - 1)) 7 0 (τ 6 0))) := by unfold pf; rw [if_pos e]
    rw [if_pos e, e1, cb_bo_some, if_neg (show ¬ (1 : Nat) = 0 by decide)]
    show _ = some (if rqs 0 (cb_up (cb_up τ 7 0 (τ 7 0 - 1)) 7 0 (τ 6 0)) 9 1 = 0 then rqs 0 (cb_up (cb_up τ 7 0 (τ 7 0 - 1)) 7 0 (τ 6 0)) else if rqs 0 (cb_up (cb_up τ 7 0 (τ 7 0 - 1)) 7 0 (τ 6 0)) 10 1 = 0 then rqs 0 (cb_up (cb_up τ 7 0 (τ 7 0 - 1)) 7 0 (τ 6 0)) else (pf 1 (rqs 0 (cb_up (cb_up τ 7 0 (τ 7 0 - 1)) 7 0 (τ 6 0)))).2)
    generalize rqs 0 (cb_up (cb_up τ 7 0 (τ 7 0 - 1)) 7 0 (τ 6 0)) = τ7
    by_cases e9 : τ7 9 1 = 0
    · rw [if_pos e9, if_pos e9]
    · rw [if_neg e9, if_neg e9]
      by_cases e10 : τ7 10 1 = 0
      · rw [if_pos e10, if_pos e10]
      · rw [if_neg e10, if_neg e10, m_rq1]
        unfold pf
        by_cases e1 : τ7 7 1 - 1 ≤ 0
        · rw [if_pos e1, if_pos e1]; rfl
        · rw [if_neg e1, if_neg e1]
  · have e1 : (pf 0 τ) = (0, cb_up τ 7 0 (τ 7 0 - 1)) := by unfold pf; rw [if_neg e]
    rw [if_neg e, e1, if_pos rfl]
theorem pfR0 (h : cb_R g (P2 σ a b) τ) : (fl1 a).1 = (pf 0 τ).1 ∧ cb_R g (P2 σ ((fl1 a).2) b) (pf 0 τ).2 := by
  obtain ⟨h1, h2, h3, h4, ⟨⟨a0, a1, a2, a4, a5, a6, a7, a8, a10, sc, b0, b1, b2, b7, b8, b10⟩, d7, d8, d9, v1, v2, v3⟩⟩ := h
  have e4 : a 4 = τ 7 0 := a4
  have e0 : a 0 = τ 5 0 := a0
  have e5 : a 5 = τ 6 0 := a5
  unfold fl1 pf
  rw [← e4]
  by_cases e : a 4 - 1 ≤ 0
  · rw [if_pos e, if_pos e]
    refine ⟨rfl, ?_⟩
    unfold rqs
    have e6 : cb_up (cb_up τ 7 0 (a 4 - 1)) 7 0 (τ 6 0) 5 0 = τ 5 0 := rfl
    rw [e6, ← e0, ← e5]
    by_cases x0 : a 0 = 0
    · rw [if_pos x0, if_pos x0]
      exact ⟨h1, h2, h3, h4, ⟨⟨a0, a1, a2, rfl, a5, a6, a7, a8, a10, sc, b0, b1, b2, b7, b8, b10⟩, d7, d8, d9, v1, v2, v3⟩⟩
    · rw [if_neg x0, if_neg x0]
      exact ⟨h1, h2, h3, h4, ⟨⟨a0, rfl, a2, rfl, a5, a6, a7, a8, a10, sc, b0, Or.inr rfl, b2, b7, b8, b10⟩, d7, d8, d9, v1, v2, v3⟩⟩
  · rw [if_neg e, if_neg e]
    refine ⟨rfl, ?_⟩
    exact ⟨h1, h2, h3, h4, ⟨⟨a0, a1, a2, rfl, a5, a6, a7, a8, a10, sc, b0, b1, b2, b7, b8, b10⟩, d7, d8, d9, v1, v2, v3⟩⟩
theorem scR0 (h : cb_R g (P2 σ a b) τ) {x : Nat} (hx : (a 9 = 0 ∧ x < 16) ∨ (a 9 = 1 ∧ x < 256)) : cb_R g (P2 σ (upd a 6 (nI x)) b) (cb_up τ 8 0 (nI x)) := by
  obtain ⟨h1, h2, h3, h4, ⟨⟨a0, a1, a2, a4, a5, a6, a7, a8, a10, sc, b0, b1, b2, b7, b8, b10⟩, d7, d8, d9, v1, v2, v3⟩⟩ := h
  refine ⟨h1, h2, h3, h4, ⟨⟨a0, a1, a2, a4, a5, rfl, a7, a8, a10, ?_, b0, b1, b2, b7, b8, b10⟩, d7, d8, d9, v1, v2, v3⟩⟩
  have s9 : a 9 = 0 ∨ a 9 = 1 := hx.elim (fun q => Or.inl q.1) (fun q => Or.inr q.1)
  rcases sc with ⟨q1, q2, -⟩ | ⟨q1, q2, -⟩
  · rcases hx with ⟨r1, r2⟩ | ⟨r1, r2⟩
    · exact Or.inl ⟨q1, q2, x, r2, rfl⟩
    · have q3 : a 9 = 0 := q1
      rw [q3] at r1
      exact absurd r1 (by decide)
  · rcases hx with ⟨r1, r2⟩ | ⟨r1, r2⟩
    · have q3 : a 9 = 1 := q1
      rw [q3] at r1
      exact absurd r1 (by decide)
    · exact Or.inr ⟨q1, q2, x, r2, rfl⟩
theorem ocR0 (h : cb_R g (P2 σ a b) τ) : ocs a ∧ a 7 = τ 9 0 ∧ a 8 = τ 10 0 ∧ a 6 = τ 8 0 ∧ τ 11 0 = nI (moc a) := by
  obtain ⟨h1, h2, h3, h4, ⟨⟨a0, a1, a2, a4, a5, a6, a7, a8, a10, sc, b0, b1, b2, b7, b8, b10⟩, d7, d8, d9, v1, v2, v3⟩⟩ := h
  have s9 : ((a 9 = 0 ∧ τ 11 0 = 16 ∧ ∃ n : Nat, n < 16 ∧ a 6 = nI n) ∨ (a 9 = 1 ∧ τ 11 0 = 256 ∧ ∃ n : Nat, n < 256 ∧ a 6 = nI n)) := sc
  refine ⟨⟨?_, b7, b8⟩, a7, a8, a6, ?_⟩
  · rcases s9 with ⟨q1, q2, q3⟩ | ⟨q1, q2, q3⟩
    · exact Or.inl ⟨q1, q3⟩
    · exact Or.inr ⟨q1, q3⟩
  · unfold moc
    rcases s9 with ⟨q1, q2, q3⟩ | ⟨q1, q2, q3⟩
    · rw [if_pos q1]; exact q2
    · rw [if_neg (show ¬ a 9 = 0 by rw [q1]; decide)]; exact q2
theorem pfR1 (h : cb_R g (P2 σ a b) τ) : (fl1 b).1 = (pf 1 τ).1 ∧ cb_R g (P2 σ a ((fl1 b).2)) (pf 1 τ).2 := by
  obtain ⟨h1, h2, h3, h4, ⟨d6, ⟨a0, a1, a2, a4, a5, a6, a7, a8, a10, sc, b0, b1, b2, b7, b8, b10⟩, d8, d9, v1, v2, v3⟩⟩ := h
  have e4 : b 4 = τ 7 1 := a4
  have e0 : b 0 = τ 5 1 := a0
  have e5 : b 5 = τ 6 1 := a5
  unfold fl1 pf
  rw [← e4]
  by_cases e : b 4 - 1 ≤ 0
  · rw [if_pos e, if_pos e]
    refine ⟨rfl, ?_⟩
    unfold rqs
    have e6 : cb_up (cb_up τ 7 1 (b 4 - 1)) 7 1 (τ 6 1) 5 1 = τ 5 1 := rfl
    rw [e6, ← e0, ← e5]
    by_cases x0 : b 0 = 0
    · rw [if_pos x0, if_pos x0]
      exact ⟨h1, h2, h3, h4, ⟨d6, ⟨a0, a1, a2, rfl, a5, a6, a7, a8, a10, sc, b0, b1, b2, b7, b8, b10⟩, d8, d9, v1, v2, v3⟩⟩
    · rw [if_neg x0, if_neg x0]
      exact ⟨h1, h2, h3, h4, ⟨d6, ⟨a0, rfl, a2, rfl, a5, a6, a7, a8, a10, sc, b0, Or.inr rfl, b2, b7, b8, b10⟩, d8, d9, v1, v2, v3⟩⟩
  · rw [if_neg e, if_neg e]
    refine ⟨rfl, ?_⟩
    exact ⟨h1, h2, h3, h4, ⟨d6, ⟨a0, a1, a2, rfl, a5, a6, a7, a8, a10, sc, b0, b1, b2, b7, b8, b10⟩, d8, d9, v1, v2, v3⟩⟩
theorem scR1 (h : cb_R g (P2 σ a b) τ) {x : Nat} (hx : (b 9 = 0 ∧ x < 16) ∨ (b 9 = 1 ∧ x < 256)) : cb_R g (P2 σ a (upd b 6 (nI x))) (cb_up τ 8 1 (nI x)) := by
  obtain ⟨h1, h2, h3, h4, ⟨d6, ⟨a0, a1, a2, a4, a5, a6, a7, a8, a10, sc, b0, b1, b2, b7, b8, b10⟩, d8, d9, v1, v2, v3⟩⟩ := h
  refine ⟨h1, h2, h3, h4, ⟨d6, ⟨a0, a1, a2, a4, a5, rfl, a7, a8, a10, ?_, b0, b1, b2, b7, b8, b10⟩, d8, d9, v1, v2, v3⟩⟩
  have s9 : b 9 = 0 ∨ b 9 = 1 := hx.elim (fun q => Or.inl q.1) (fun q => Or.inr q.1)
  rcases sc with ⟨q1, q2, -⟩ | ⟨q1, q2, -⟩
  · rcases hx with ⟨r1, r2⟩ | ⟨r1, r2⟩
    · exact Or.inl ⟨q1, q2, x, r2, rfl⟩
    · have q3 : b 9 = 0 := q1
      rw [q3] at r1
      exact absurd r1 (by decide)
  · rcases hx with ⟨r1, r2⟩ | ⟨r1, r2⟩
    · have q3 : b 9 = 1 := q1
      rw [q3] at r1
      exact absurd r1 (by decide)
    · exact Or.inr ⟨q1, q2, x, r2, rfl⟩
theorem ocR1 (h : cb_R g (P2 σ a b) τ) : ocs b ∧ b 7 = τ 9 1 ∧ b 8 = τ 10 1 ∧ b 6 = τ 8 1 ∧ τ 11 1 = nI (moc b) := by
  obtain ⟨h1, h2, h3, h4, ⟨d6, ⟨a0, a1, a2, a4, a5, a6, a7, a8, a10, sc, b0, b1, b2, b7, b8, b10⟩, d8, d9, v1, v2, v3⟩⟩ := h
  have s9 : ((b 9 = 0 ∧ τ 11 1 = 16 ∧ ∃ n : Nat, n < 16 ∧ b 6 = nI n) ∨ (b 9 = 1 ∧ τ 11 1 = 256 ∧ ∃ n : Nat, n < 256 ∧ b 6 = nI n)) := sc
  refine ⟨⟨?_, b7, b8⟩, a7, a8, a6, ?_⟩
  · rcases s9 with ⟨q1, q2, q3⟩ | ⟨q1, q2, q3⟩
    · exact Or.inl ⟨q1, q3⟩
    · exact Or.inr ⟨q1, q3⟩
  · unfold moc
    rcases s9 with ⟨q1, q2, q3⟩ | ⟨q1, q2, q3⟩
    · rw [if_pos q1]; exact q2
    · rw [if_neg (show ¬ b 9 = 0 by rw [q1]; decide)]; exact q2
theorem f0R (h : cb_R g (P2 σ a b) τ) : ∃ τ', m_fall τ (nI 0) = some τ' ∧ cb_R g (P2 σ (fl1 a).2 (trn (fl1 a).1 b)) τ' := by
  obtain ⟨q1, q2⟩ := pfR0 h
  rw [m_f0, ← q1]
  refine ⟨_, rfl, ?_⟩
  rcases fl1_01 a with e | e
  · rw [e, if_pos rfl]; exact q2
  · rw [e, if_neg (show ¬ (1 : Nat) = 0 by decide)]
    show cb_R g (P2 σ (fl1 a).2 (tr1 b)) _
    obtain ⟨-, r7, r8, -, -⟩ := ocR1 q2
    unfold tr1
    rw [← r7, ← r8]
    by_cases e7 : b 7 = 0
    · rw [if_pos e7, if_pos e7]; exact q2
    · rw [if_neg e7, if_neg e7]
      by_cases e8 : b 8 = 0
      · rw [if_pos e8, if_pos e8]; exact q2
      · rw [if_neg e8, if_neg e8]; exact (pfR1 q2).2
theorem f1R (h : cb_R g (P2 σ a b) τ) : ∃ τ', m_fall τ (nI 1) = some τ' ∧ cb_R g (P2 σ a (fl1 b).2) τ' := ⟨_, m_f1 τ, (pfR1 h).2⟩
theorem moc_6 (c : Nat → Int32) (x : Int32) : moc (upd c 6 x) = moc c := rfl
theorem moc_f (c : Nat → Int32) : moc (fl1 c).2 = moc c := by unfold moc; rw [fl1_k (by decide) (by decide)]
theorem moc_lt (c : Nat → Int32) : moc c = 16 ∨ moc c = 256 := by
  unfold moc
  by_cases e : c 9 = 0
  · rw [if_pos e]; exact Or.inl rfl
  · rw [if_neg e]; exact Or.inr rfl
theorem moc_x {c : Nat → Int32} (h : ocs c) {x : Nat} (hx : x < moc c) : (c 9 = 0 ∧ x < 16) ∨ (c 9 = 1 ∧ x < 256) := by
  unfold moc at hx
  rcases h.1 with ⟨q, -⟩ | ⟨q, -⟩
  · rw [if_pos q] at hx; exact Or.inl ⟨q, hx⟩
  · rw [if_neg (show ¬ c 9 = 0 by rw [q]; decide)] at hx; exact Or.inr ⟨q, hx⟩
theorem ocs_s {c : Nat → Int32} (h : ocs c) : ∃ s, s < moc c ∧ c 6 = nI s := by
  unfold moc
  rcases h.1 with ⟨q, s, hs, e⟩ | ⟨q, s, hs, e⟩
  · rw [if_pos q]; exact ⟨s, hs, e⟩
  · rw [if_neg (show ¬ c 9 = 0 by rw [q]; decide)]; exact ⟨s, hs, e⟩
theorem m_b0 {N : Nat} {v x3 : Int32} {k22 : cb_S → Int32 → Option cb_S} {k29 : cb_S → Int32 → Int32 → Option cb_S} : m_pass_B29 N v k22 k29 τ (nI 0) x3 = if v ≤ x3 then m_pass_L95 N v k22 τ (nI 0) else (if τ 9 0 = 0 then m_pass_L95 N v k22 τ (nI 0) else (if τ 10 0 = 0 then cb_let (cb_up τ 8 0 (τ 8 0 + 1)) fun τ9 => (if τ9 8 0 < τ9 11 0 then m_pass_L89 N v k22 k29 τ9 (nI 0) x3 else cb_let (cb_up τ9 8 0 0) fun τ12 => cb_bo (m_fall τ12 (nI 0)) fun τ14 => m_pass_L89 N v k22 k29 τ14 (nI 0) x3) else m_pass_L95 N v k22 τ (nI 0))) := rfl
theorem m_lp0 {N n : Nat} {k22 : cb_S → Int32 → Option cb_S} (hn : n < 32) (d : Nat) : ∀ (f i s : Nat) (a b : Nat → Int32) (τ : cb_S), i + d = n → cb_R g (P2 σ a b) τ → a 7 = 1 → a 8 = 0 → a 6 = nI s → s < moc a → ∃ τ', m_pass_H29 N (nI n) k22 (d + 1 + f) τ (nI 0) (nI i) = m_pass_L95 N (nI n) k22 τ' (nI 0) ∧ cb_R g (P2 σ ((ckn (moc a) d s a).2) (trn ((ckn (moc a) d s a).1) b)) τ' := by
  induction d with
  | zero =>
    intro f i s a b τ hi h h7 h8 h6 hs
    rw [show 0 + 1 + f = f + 1 by omega]
    refine ⟨τ, ?_, h⟩
    show m_pass_B29 N (nI n) k22 _ τ (nI 0) (nI i) = _
    rw [m_b0, if_pos ((nI_leI (by omega) (by omega)).mpr (by omega))]
  | succ d ih =>
    intro f i s a b τ hi h h7 h8 h6 hs
    rw [show d + 1 + 1 + f = (d + 1 + f) + 1 by omega]
    obtain ⟨oc, r7, r8, r6, r11⟩ := ocR0 h
    have hM := moc_lt a
    have e1 : m_pass_H29 N (nI n) k22 (d + 1 + f + 1) τ (nI 0) (nI i) = m_pass_B29 N (nI n) k22 (m_pass_H29 N (nI n) k22 (d + 1 + f)) τ (nI 0) (nI i) := rfl
    have e2 : cb_up τ 8 0 (nI (s + 1)) 8 0 = nI (s + 1) := rfl
    have e3 : cb_up τ 8 0 (nI (s + 1)) 11 0 = nI (moc a) := r11
    have e4 : ∀ τ', m_pass_L89 N (nI n) k22 (m_pass_H29 N (nI n) k22 (d + 1 + f)) τ' (nI 0) (nI i) = m_pass_H29 N (nI n) k22 (d + 1 + f) τ' (nI 0) (nI (i + 1)) := by
      intro τ'
      unfold m_pass_L89
      rw [cb_let_e, nI_1]
    rw [e1, m_b0, if_neg (fun q => by have := (nI_leI (a := n) (b := i) (by omega) (by omega)).mp q; omega), ← r7, h7, if_neg (show ¬ (1 : Int32) = 0 by decide), ← r8, h8, if_pos rfl, ← r6, h6, nI_1, cb_let_e, e2, e3]
    unfold ckn
    by_cases hlt : s + 1 < moc a
    · rw [if_pos ((nI_ltI (by omega) (by omega)).mpr hlt), if_pos hlt, e4]
      have h1 := scR0 h (moc_x oc hlt)
      exact ih f (i + 1) (s + 1) _ _ _ (by omega) h1 h7 h8 (pu_hit _ _ _) hlt
    · rw [if_neg (fun q => hlt ((nI_ltI (by omega) (by omega)).mp q)), if_neg hlt, cb_let_e, cb_up_up]
      have h1 : cb_R g (P2 σ (upd a 6 0) b) (cb_up τ 8 0 0) := scR0 h (x := 0) (moc_x oc (by omega))
      obtain ⟨τ1, q1, q2⟩ := f0R h1
      rw [cb_bo_e q1, e4]
      have k7 : (fl1 (upd a 6 0)).2 7 = 1 := (fl1_k (by decide) (by decide) _).trans h7
      have k8 : (fl1 (upd a 6 0)).2 8 = 0 := (fl1_k (by decide) (by decide) _).trans h8
      have k6 : (fl1 (upd a 6 0)).2 6 = nI 0 := (fl1_k (by decide) (by decide) _).trans rfl
      have km : moc (fl1 (upd a 6 0)).2 = moc a := (moc_f _).trans (moc_6 _ _)
      have q := ih f (i + 1) 0 _ _ τ1 (by omega) q2 k7 k8 k6 (by omega)
      rw [km] at q
      obtain ⟨τ2, q3, q4⟩ := q
      refine ⟨τ2, q3, ?_⟩
      show cb_R g (P2 σ (ckn (moc a) d 0 (fl1 (upd a 6 0)).2).2 (trn ((fl1 (upd a 6 0)).1 + (ckn (moc a) d 0 (fl1 (upd a 6 0)).2).1) b)) τ2
      rw [trn_add]
      exact q4
theorem s_ch0 {N n : Nat} {k22 : cb_S → Int32 → Option cb_S} (hN : 100 < N) (hn : n < 32) (h : cb_R g (P2 σ a b) τ) : ∃ τ', m_pass_H29 N (nI n) k22 N τ (nI 0) (nI 0) = m_pass_L95 N (nI n) k22 τ' (nI 0) ∧ cb_R g (P2 σ ((tcl n a).2) (trn ((tcl n a).1) b)) τ' := by
  obtain ⟨oc, r7, r8, r6, r11⟩ := ocR0 h
  obtain ⟨s, hs, e6⟩ := ocs_s oc
  unfold tcl
  by_cases e7 : a 7 = 0
  · refine ⟨τ, ?_, ?_⟩
    · obtain ⟨f, hf⟩ : ∃ f, N = f + 1 := ⟨N - 1, by omega⟩
      have w : m_pass_H29 N (nI n) k22 (f + 1) τ (nI 0) (nI 0) = m_pass_B29 N (nI n) k22 (m_pass_H29 N (nI n) k22 f) τ (nI 0) (nI 0) := rfl
      rw [← hf] at w
      rw [w, m_b0, ← r7, if_pos e7]
      split <;> rfl
    · rw [if_pos e7]; exact h
  · rw [if_neg e7]
    have e71 : a 7 = 1 := n01 oc.2.1 e7
    by_cases e8 : a 8 = 0
    · rw [if_pos e8, e6, nI_clamp (by have := moc_lt a; omega)]
      obtain ⟨f, hf⟩ : ∃ f, N = n + 1 + f := ⟨N - (n + 1), by omega⟩
      have q := m_lp0 (N := N) (k22 := k22) hn n f 0 s a b τ (by omega) h e71 e8 e6 hs
      rw [← hf] at q
      exact q
    · refine ⟨τ, ?_, ?_⟩
      · obtain ⟨f, hf⟩ : ∃ f, N = f + 1 := ⟨N - 1, by omega⟩
        have w : m_pass_H29 N (nI n) k22 (f + 1) τ (nI 0) (nI 0) = m_pass_B29 N (nI n) k22 (m_pass_H29 N (nI n) k22 f) τ (nI 0) (nI 0) := rfl
        rw [← hf] at w
        rw [w, m_b0, ← r7, if_neg e7, ← r8, if_neg e8]
        split <;> rfl
      · rw [if_neg e8]; exact h
theorem m_b1 {N : Nat} {v x3 : Int32} {k22 : cb_S → Int32 → Option cb_S} {k29 : cb_S → Int32 → Int32 → Option cb_S} : m_pass_B29 N v k22 k29 τ (nI 1) x3 = if v ≤ x3 then m_pass_L95 N v k22 τ (nI 1) else (if τ 9 1 = 0 then m_pass_L95 N v k22 τ (nI 1) else (if τ 10 1 = 0 then cb_let (cb_up τ 8 1 (τ 8 1 + 1)) fun τ9 => (if τ9 8 1 < τ9 11 1 then m_pass_L89 N v k22 k29 τ9 (nI 1) x3 else cb_let (cb_up τ9 8 1 0) fun τ12 => cb_bo (m_fall τ12 (nI 1)) fun τ14 => m_pass_L89 N v k22 k29 τ14 (nI 1) x3) else m_pass_L95 N v k22 τ (nI 1))) := rfl
theorem m_lp1 {N n : Nat} {k22 : cb_S → Int32 → Option cb_S} (hn : n < 32) (d : Nat) : ∀ (f i s : Nat) (a b : Nat → Int32) (τ : cb_S), i + d = n → cb_R g (P2 σ a b) τ → b 7 = 1 → b 8 = 0 → b 6 = nI s → s < moc b → ∃ τ', m_pass_H29 N (nI n) k22 (d + 1 + f) τ (nI 1) (nI i) = m_pass_L95 N (nI n) k22 τ' (nI 1) ∧ cb_R g (P2 σ a ((ckn (moc b) d s b).2)) τ' := by
  induction d with
  | zero =>
    intro f i s a b τ hi h h7 h8 h6 hs
    rw [show 0 + 1 + f = f + 1 by omega]
    refine ⟨τ, ?_, h⟩
    show m_pass_B29 N (nI n) k22 _ τ (nI 1) (nI i) = _
    rw [m_b1, if_pos ((nI_leI (by omega) (by omega)).mpr (by omega))]
  | succ d ih =>
    intro f i s a b τ hi h h7 h8 h6 hs
    rw [show d + 1 + 1 + f = (d + 1 + f) + 1 by omega]
    obtain ⟨oc, r7, r8, r6, r11⟩ := ocR1 h
    have hM := moc_lt b
    have e1 : m_pass_H29 N (nI n) k22 (d + 1 + f + 1) τ (nI 1) (nI i) = m_pass_B29 N (nI n) k22 (m_pass_H29 N (nI n) k22 (d + 1 + f)) τ (nI 1) (nI i) := rfl
    have e2 : cb_up τ 8 1 (nI (s + 1)) 8 1 = nI (s + 1) := rfl
    have e3 : cb_up τ 8 1 (nI (s + 1)) 11 1 = nI (moc b) := r11
    have e4 : ∀ τ', m_pass_L89 N (nI n) k22 (m_pass_H29 N (nI n) k22 (d + 1 + f)) τ' (nI 1) (nI i) = m_pass_H29 N (nI n) k22 (d + 1 + f) τ' (nI 1) (nI (i + 1)) := by
      intro τ'
      unfold m_pass_L89
      rw [cb_let_e, nI_1]
    rw [e1, m_b1, if_neg (fun q => by have := (nI_leI (a := n) (b := i) (by omega) (by omega)).mp q; omega), ← r7, h7, if_neg (show ¬ (1 : Int32) = 0 by decide), ← r8, h8, if_pos rfl, ← r6, h6, nI_1, cb_let_e, e2, e3]
    unfold ckn
    by_cases hlt : s + 1 < moc b
    · rw [if_pos ((nI_ltI (by omega) (by omega)).mpr hlt), if_pos hlt, e4]
      have h1 := scR1 h (moc_x oc hlt)
      exact ih f (i + 1) (s + 1) _ _ _ (by omega) h1 h7 h8 (pu_hit _ _ _) hlt
    · rw [if_neg (fun q => hlt ((nI_ltI (by omega) (by omega)).mp q)), if_neg hlt, cb_let_e, cb_up_up]
      have h1 : cb_R g (P2 σ a (upd b 6 0)) (cb_up τ 8 1 0) := scR1 h (x := 0) (moc_x oc (by omega))
      obtain ⟨τ1, q1, q2⟩ := f1R h1
      rw [cb_bo_e q1, e4]
      have k7 : (fl1 (upd b 6 0)).2 7 = 1 := (fl1_k (by decide) (by decide) _).trans h7
      have k8 : (fl1 (upd b 6 0)).2 8 = 0 := (fl1_k (by decide) (by decide) _).trans h8
      have k6 : (fl1 (upd b 6 0)).2 6 = nI 0 := (fl1_k (by decide) (by decide) _).trans rfl
      have km : moc (fl1 (upd b 6 0)).2 = moc b := (moc_f _).trans (moc_6 _ _)
      have q := ih f (i + 1) 0 _ _ τ1 (by omega) q2 k7 k8 k6 (by omega)
      rw [km] at q
      obtain ⟨τ2, q3, q4⟩ := q
      refine ⟨τ2, q3, ?_⟩
      exact q4
theorem s_ch1 {N n : Nat} {k22 : cb_S → Int32 → Option cb_S} (hN : 100 < N) (hn : n < 32) (h : cb_R g (P2 σ a b) τ) : ∃ τ', m_pass_H29 N (nI n) k22 N τ (nI 1) (nI 0) = m_pass_L95 N (nI n) k22 τ' (nI 1) ∧ cb_R g (P2 σ a ((tcl n b).2)) τ' := by
  obtain ⟨oc, r7, r8, r6, r11⟩ := ocR1 h
  obtain ⟨s, hs, e6⟩ := ocs_s oc
  unfold tcl
  by_cases e7 : b 7 = 0
  · refine ⟨τ, ?_, ?_⟩
    · obtain ⟨f, hf⟩ : ∃ f, N = f + 1 := ⟨N - 1, by omega⟩
      have w : m_pass_H29 N (nI n) k22 (f + 1) τ (nI 1) (nI 0) = m_pass_B29 N (nI n) k22 (m_pass_H29 N (nI n) k22 f) τ (nI 1) (nI 0) := rfl
      rw [← hf] at w
      rw [w, m_b1, ← r7, if_pos e7]
      split <;> rfl
    · rw [if_pos e7]; exact h
  · rw [if_neg e7]
    have e71 : b 7 = 1 := n01 oc.2.1 e7
    by_cases e8 : b 8 = 0
    · rw [if_pos e8, e6, nI_clamp (by have := moc_lt b; omega)]
      obtain ⟨f, hf⟩ : ∃ f, N = n + 1 + f := ⟨N - (n + 1), by omega⟩
      have q := m_lp1 (N := N) (k22 := k22) hn n f 0 s a b τ (by omega) h e71 e8 e6 hs
      rw [← hf] at q
      exact q
    · refine ⟨τ, ?_, ?_⟩
      · obtain ⟨f, hf⟩ : ∃ f, N = f + 1 := ⟨N - 1, by omega⟩
        have w : m_pass_H29 N (nI n) k22 (f + 1) τ (nI 1) (nI 0) = m_pass_B29 N (nI n) k22 (m_pass_H29 N (nI n) k22 f) τ (nI 1) (nI 0) := rfl
        rw [← hf] at w
        rw [w, m_b1, ← r7, if_neg e7, ← r8, if_neg e8]
        split <;> rfl
      · rw [if_neg e8]; exact h
theorem ps_clk (h : cb_R g σ τ) (v : Int32) : cb_R (g.1, g.2.1 + v, g.2.2) (cb_up σ 3 10 (σ 3 10 + v)) (cb_up (cb_up τ 0 8 (τ 0 8 + v)) 25 0 (τ 25 0 + v)) := by
  obtain ⟨h1, h2, h3, ⟨a1, a2, a3, a4, a5, a6, a7, a8, a9, a10, a11⟩, h5⟩ := h
  refine ⟨h1, h2, h3, ⟨a1, a2, a3, ?_, a5, a6, a7, a8, a9, ?_, a11⟩, h5⟩
  · show σ 3 10 + v = τ 25 0 + v
    rw [a4]
  · show τ 0 8 + v = g.2.1 + v
    rw [a10]
theorem s_spend (h : cb_R g σ τ) {N n : Nat} (hN : 100 < N) (hn : n < 32) : cb_Sv (c_Processor_spend N σ (nI n)) (m_pass N τ (nI n)) (cb_R (g.1, g.2.1 + nI n, g.2.2)) := by
  have h0 := ps_clk h (nI n)
  unfold c_Processor_spend m_pass
  rw [cb_let_e, cb_let_e, cb_let_e]
  have e1 : cb_up τ 0 8 (τ 0 8 + nI n) 25 0 = τ 25 0 := rfl
  rw [e1]
  generalize cb_up σ 3 10 (σ 3 10 + nI n) = σ1 at h0 ⊢
  generalize cb_up (cb_up τ 0 8 (τ 0 8 + nI n)) 25 0 (τ 25 0 + nI n) = τ1 at h0 ⊢
  rw [← P2_self σ1] at h0 ⊢
  generalize σ1 6 = a at h0 ⊢
  generalize σ1 7 = b at h0 ⊢
  rw [cb_bo_e (c_tcs hN hn (ocR0 h0).1 (ocR1 h0).1)]
  obtain ⟨f, hf⟩ : ∃ f, N = f + 1 + 1 + 1 := ⟨N - 3, by omega⟩
  have w0 : m_pass_H22 N (nI n) (f + 1 + 1 + 1) τ1 0 = m_pass_H29 N (nI n) (m_pass_H22 N (nI n) (f + 1 + 1)) N τ1 (nI 0) (nI 0) := rfl
  obtain ⟨τ2, q1, q2⟩ := s_ch0 (k22 := m_pass_H22 N (nI n) (f + 1 + 1)) hN hn h0
  have w1 : m_pass_L95 N (nI n) (m_pass_H22 N (nI n) (f + 1 + 1)) τ2 (nI 0) = m_pass_H29 N (nI n) (m_pass_H22 N (nI n) (f + 1)) N τ2 (nI 1) (nI 0) := rfl
  obtain ⟨τ3, q3, q4⟩ := s_ch1 (k22 := m_pass_H22 N (nI n) (f + 1)) hN hn q2
  have w2 : m_pass_L95 N (nI n) (m_pass_H22 N (nI n) (f + 1)) τ3 (nI 1) = some τ3 := rfl
  refine ⟨_, τ3, rfl, ?_, q4⟩
  have w : m_pass_H22 N (nI n) N τ1 0 = m_pass_H22 N (nI n) (f + 1 + 1 + 1) τ1 0 := by rw [← hf]
  rw [w, w0, q1, w1, q3, w2]
end P23
