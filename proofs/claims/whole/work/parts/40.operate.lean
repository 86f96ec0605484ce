/-! the eight operations on A, both sides -/
section P10
variable {g : Int32 × Int32 × Int32} {σ τ : cb_S}
theorem cb_up_id (σ : cb_S) (j k : Nat) : cb_up σ j k (σ j k) = σ := by
  funext i
  by_cases h : i = j
  · subst h
    rw [cb_up_eq]
    funext m
    unfold upd
    by_cases hm : m = k
    · rw [if_pos hm, hm]
    · rw [if_neg hm]
  · rw [cb_up_ne _ _ _ h]
theorem cf01 : ∀ f, f < 256 → (if (if nI f &&& 1 = 0 then (0 : Int32) else 1) = 0 then (0 : Int32) else 1) = nI (f % 2) := by decide +kernel
theorem cf1 : ∀ f, f < 256 → nI f &&& 1 = nI (f % 2) := by decide +kernel
theorem cf0 : ∀ f, f < 256 → (if nI f &&& 1 = 0 then (0 : Int32) else 1) = nI (f % 2) := by decide +kernel
theorem m_carry {N f : Nat} {o v : Int32} (hf : f < 256) (hF : τ 2 6 = nI f) : m_operate_L10 N o v τ = m_operate_L23 N o v τ (nI (f % 2)) := by
  unfold m_operate_L10
  rw [cb_bo_e (show m_flag τ 1 = some (if τ 2 6 &&& 1 = 0 then 0 else 1) from rfl), hF, cf01 f hf]
theorem s_op_add (h : cb_R g σ τ) {N a f v o c : Nat} (hN : 16 < N) (hv : v < 256) (ha : a < 256) (hf : f < 256) (hk : okF f = true) (A1 : σ 12 7 = nI a) (A2 : τ 2 7 = nI a) (F1 : σ 12 6 = nI f) (F2 : τ 2 6 = nI f) (ho : o < 2) (hc : c ≤ 1)
    (ec : c_Flags_operate (nI o) (nI a) (nI v) (nI f &&& 1) = c_Flags_add (nI a) (nI v) (nI c)) (em : m_operate N τ (nI o) (nI v) = m_operate_L23 N (nI o) (nI v) τ (nI c)) : cb_Sv (c_Processor_operate σ (nI o) (nI v)) (m_operate N τ (nI o) (nI v)) (cb_R g) := by
  obtain ⟨τ1, e1, hR⟩ := m_op_add (g := g) (N := N) (o := o) (by omega) ho A2 F2 ha hv hc hf hk
  have hlt : aS a v c 8 < 256 := aS_lt a v c 8
  have c4 := aC_le (a := a) (b := v) hc 4
  have c8 := aC_le (a := a) (b := v) hc 8
  have h7 : ¬ nI o = 7 := by rcases (show o = 0 ∨ o = 1 by omega) with rfl | rfl <;> decide
  refine ⟨_, _, c_op A1 F1 hf hk hlt (t8_le hlt) (zf_le _) c4 (m2_le _) (Nat.zero_le 1) c8 h7 (ec.trans (c_add_8 ha hv hc)), em.trans e1, ?_⟩
  exact ps_AF (hR σ h) hlt (fl_lt (t8_le hlt) (zf_le _) c4 (m2_le _) (Nat.zero_le 1) c8) (fl_ok _ (le_2 (t8_le hlt)) _ (le_2 (zf_le _)) _ (le_2 c4) _ (lt_2 _) 0 (by omega) _ (le_2 c8))
theorem s_op_sub (h : cb_R g σ τ) {N a f v o w : Nat} (hN : 16 < N) (hv : v < 256) (ha : a < 256) (hf : f < 256) (hk : okF f = true) (A1 : σ 12 7 = nI a) (A2 : τ 2 7 = nI a) (F1 : σ 12 6 = nI f) (F2 : τ 2 6 = nI f) (ho : o = 2 ∨ o = 3 ∨ o = 7) (hw : w ≤ 1)
    (ec : c_Flags_operate (nI o) (nI a) (nI v) (nI f &&& 1) = c_Flags_subtract (nI a) (nI v) (nI w)) (em : m_operate N τ (nI o) (nI v) = m_operate_L23 N (nI o) (nI v) τ (nI w)) : cb_Sv (c_Processor_operate σ (nI o) (nI v)) (m_operate N τ (nI o) (nI v)) (cb_R g) := by
  generalize eB : 255 - v = B
  generalize eW : 1 - w = W
  obtain ⟨τ1, e1, hR, e7⟩ := m_op_sub (g := g) (N := N) (o := o) (by omega) ho A2 F2 ha hv hw hf hk eB.symm eW.symm
  have hlt : aS a B W 8 < 256 := aS_lt a B W 8
  have s1 := t8_le hlt
  have es := c_sub_8 ha hv hw eB.symm eW.symm
  have hfl := fl_lt s1 (zf_le (aS a B W 8)) (m1_le (aC a B W 4)) (m2_le (aC a B W 7 + aC a B W 8)) (Nat.le_refl 1) (m1_le (aC a B W 8))
  have hok := fl_ok _ (le_2 s1) _ (le_2 (zf_le (aS a B W 8))) _ (le_2 (m1_le (aC a B W 4))) _ (lt_2 (aC a B W 7 + aC a B W 8)) 1 (by omega) _ (le_2 (m1_le (aC a B W 8)))
  rcases ho with rfl | rfl | rfl
  · rw [if_neg (by decide), cb_up_cm _ _ _ _ (by decide)] at e1
    exact ⟨_, _, c_op A1 F1 hf hk hlt s1 (zf_le _) (m1_le _) (m2_le _) (Nat.le_refl 1) (m1_le _) (by decide) (ec.trans es), em.trans e1, ps_AF (hR σ h) hlt hfl hok⟩
  · rw [if_neg (by decide), cb_up_cm _ _ _ _ (by decide)] at e1
    exact ⟨_, _, c_op A1 F1 hf hk hlt s1 (zf_le _) (m1_le _) (m2_le _) (Nat.le_refl 1) (m1_le _) (by decide) (ec.trans es), em.trans e1, ps_AF (hR σ h) hlt hfl hok⟩
  · rw [if_pos rfl, cb_up_cm _ _ _ _ (by decide), ← e7, cb_up_id] at e1
    exact ⟨_, _, c_cp A1 F1 hf hk s1 (zf_le _) (m1_le _) (m2_le _) (Nat.le_refl 1) (m1_le _) (ec.trans es), em.trans e1, ps_F (hR σ h) hfl hok⟩
theorem s_op_lg (h : cb_R g σ τ) {N a f v o r hh : Nat} (ha : a < 256) (hf : f < 256) (hk : okF f = true) (A1 : σ 12 7 = nI a) (F1 : σ 12 6 = nI f) (hr : r < 256) (h1 : hh ≤ 1) (h7 : ¬ nI o = 7)
    (ec : c_Flags_operate (nI o) (nI a) (nI v) (nI f &&& 1) = some (nI (r * 256 + fl (r / 128) (zf r) hh (ev r) 0 0))) (em : m_operate N τ (nI o) (nI v) = cb_bo (m_logicFlags (cb_up τ 2 7 (nI r)) (nI r) (nI hh) 0) fun τ => some τ) : cb_Sv (c_Processor_operate σ (nI o) (nI v)) (m_operate N τ (nI o) (nI v)) (cb_R g) := by
  have s1 := t8_le hr
  have p1 : ev r ≤ 1 := Nat.le_of_lt_succ (ev_m r hr).2
  refine ⟨_, _, c_op A1 F1 hf hk hr s1 (zf_le _) h1 p1 (Nat.zero_le 1) (Nat.zero_le 1) h7 ec, em.trans (cb_bo_e (m_lg hr h1)), ?_⟩
  exact ps_AF h hr (fl_lt s1 (zf_le _) h1 p1 (Nat.zero_le 1) (Nat.zero_le 1)) (fl_ok _ (le_2 s1) _ (le_2 (zf_le _)) _ (le_2 h1) _ (le_2 p1) 0 (by omega) 0 (by omega))
theorem s_operate (h : cb_R g σ τ) {N : Nat} (hN : 16 < N) {o v : Nat} (ho : o < 8) (hv : v < 256) : cb_Sv (c_Processor_operate σ (nI o) (nI v)) (m_operate N τ (nI o) (nI v)) (cb_R g) := by
  obtain ⟨a, f, ha, hf, hk, A1, A2, F1, F2⟩ := pAF h
  have f2 := m2_le f
  have idb : ∀ x : Option Int32, (cb_bo x fun c => some c) = x := fun x => by cases x <;> rfl
  rcases cb_lt8 ho with rfl | rfl | rfl | rfl | rfl | rfl | rfl | rfl
  · exact s_op_add h hN hv ha hf hk A1 A2 F1 F2 (by omega) (c := 0) (by omega) (idb (c_Flags_add (nI a) (nI v) (nI 0))) rfl
  · exact s_op_add h hN hv ha hf hk A1 A2 F1 F2 (by omega) (c := f % 2) f2 (by rw [cf1 f hf]; exact idb (c_Flags_add (nI a) (nI v) (nI (f % 2)))) (show m_operate_L10 N (nI 1) (nI v) τ = _ from m_carry hf F2)
  · exact s_op_sub h hN hv ha hf hk A1 A2 F1 F2 (by omega) (w := 0) (by omega) (idb (c_Flags_subtract (nI a) (nI v) (nI 0))) rfl
  · exact s_op_sub h hN hv ha hf hk A1 A2 F1 F2 (by omega) (w := f % 2) f2 (by rw [cf1 f hf]; exact idb (c_Flags_subtract (nI a) (nI v) (nI (f % 2)))) (show m_operate_L10 N (nI 3) (nI v) τ = _ from m_carry hf F2)
  · have hr : a &&& v < 256 := Nat.and_lt_two_pow (n := 8) a hv
    refine s_op_lg h (r := a &&& v) (hh := 1) ha hf hk A1 F1 hr (by omega) (by decide) ?_ ?_
    · show (cb_bo (c_Flags_withParity (nI a &&& nI v)) fun c => some (c ||| 16)) = _
      rw [cb_and_n, cb_bo_e (wp_c _ hr), wp_h _ hr]
    · rw [← cb_and_n, ← A2]; rfl
  · have hr : a ^^^ v < 256 := Nat.xor_lt_two_pow (n := 8) ha hv
    refine s_op_lg h (r := a ^^^ v) (hh := 0) ha hf hk A1 F1 hr (by omega) (by decide) ?_ ?_
    · show (cb_bo (c_Flags_withParity (nI a ^^^ nI v)) fun c => some c) = _
      rw [cb_xor_n, cb_bo_e (wp_c _ hr)]
    · rw [← cb_xor_n, ← A2]; rfl
  · have hr : a ||| v < 256 := Nat.or_lt_two_pow (n := 8) ha hv
    refine s_op_lg h (r := a ||| v) (hh := 0) ha hf hk A1 F1 hr (by omega) (by decide) ?_ ?_
    · show (cb_bo (c_Flags_withParity (nI a ||| nI v)) fun c => some c) = _
      rw [cb_or_n, cb_bo_e (wp_c _ hr)]
    · rw [← cb_or_n, ← A2]; rfl
  · exact s_op_sub h hN hv ha hf hk A1 A2 F1 F2 (by omega) (w := 0) (by omega) (idb (c_Flags_subtract (nI a) (nI v) (nI 0))) rfl
end P10
