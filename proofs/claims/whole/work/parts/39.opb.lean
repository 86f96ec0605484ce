/-! the eight operations on A; steps by one -/
section P9
variable {g : Int32 × Int32 × Int32} {σ τ : cb_S}
theorem c_op {o v a f R s z hh p n c : Nat} (hA : σ 12 7 = nI a) (hF : σ 12 6 = nI f) (hf : f < 256) (ho : okF f = true) (hR : R < 256) (h1 : s ≤ 1) (h2 : z ≤ 1) (h3 : hh ≤ 1) (h4 : p ≤ 1) (h5 : n ≤ 1) (h6 : c ≤ 1) (h7 : ¬ nI o = 7)
    (e : c_Flags_operate (nI o) (nI a) (nI v) (nI f &&& 1) = some (nI (R * 256 + fl s z hh p n c))) : c_Processor_operate σ (nI o) (nI v) = some (cb_up (cb_up σ 12 7 (nI R)) 12 6 (nI (fl s z hh p n c))) := by
  have hl := fl_lt h1 h2 h3 h4 h5 h6
  unfold c_Processor_operate
  rw [hA, hF, cb_bo_e e, if_neg h7, cb_let_e]
  unfold c_Processor_operate_L39
  rw [cb_bo_e (c_cf _ _ _)]
  show some (cb_up (cb_up σ 12 7 (nI (R * 256 + fl s z hh p n c) >>> ((8 : Int32) &&& 31))) 12 6 ((σ 12 6 &&& ((215 : Int32) ^^^ (-1))) ||| (nI (R * 256 + fl s z hh p n c) &&& 215))) = _
  rw [hF, hi_res hl (by omega), low_and hl (by decide +kernel), fl_215 f hf ho s (le_2 h1) z (le_2 h2) hh (le_2 h3) p (le_2 h4) n (le_2 h5) c (le_2 h6)]
theorem c_cp {v a f R s z hh p n c : Nat} (hA : σ 12 7 = nI a) (hF : σ 12 6 = nI f) (hf : f < 256) (ho : okF f = true) (h1 : s ≤ 1) (h2 : z ≤ 1) (h3 : hh ≤ 1) (h4 : p ≤ 1) (h5 : n ≤ 1) (h6 : c ≤ 1)
    (e : c_Flags_operate (nI 7) (nI a) (nI v) (nI f &&& 1) = some (nI (R * 256 + fl s z hh p n c))) : c_Processor_operate σ (nI 7) (nI v) = some (cb_up σ 12 6 (nI (fl s z hh p n c))) := by
  have hl := fl_lt h1 h2 h3 h4 h5 h6
  unfold c_Processor_operate
  rw [hA, hF, cb_bo_e e, if_pos (show nI 7 = 7 from rfl)]
  unfold c_Processor_operate_L39
  rw [cb_bo_e (c_cf _ _ _), hF, low_and hl (by decide +kernel), fl_215 f hf ho s (le_2 h1) z (le_2 h2) hh (le_2 h3) p (le_2 h4) n (le_2 h5) c (le_2 h6)]
theorem m_op_add {N o v a f c : Nat} (hN : 8 < N) (ho : o < 2) (hA : τ 2 7 = nI a) (hF : τ 2 6 = nI f) (ha : a < 256) (hv : v < 256) (hc : c ≤ 1) (hf : f < 256) (hk : okF f = true) :
    ∃ τ1 : cb_S, m_operate_L23 N (nI o) (nI v) τ (nI c) = some (cb_up (cb_up τ1 2 7 (nI (aS a v c 8))) 2 6 (nI (fl (aS a v c 8 / 128) (zf (aS a v c 8)) (aC a v c 4) ((aC a v c 7 + aC a v c 8) % 2) 0 (aC a v c 8)))) ∧ (∀ σ, cb_R g σ τ → cb_R g σ τ1) := by
  refine ⟨cb_up (cb_up (cb_up τ 0 9 (nI (aC a v c 4))) 0 10 (nI (aC a v c 7))) 0 11 (nI (aC a v c 8)), ?_, fun σ h => h⟩
  have hlt : aS a v c 8 < 256 := aS_lt a v c 8
  have ea : m_add N τ (nI a) (nI v) (nI c) 8 = some (nI (aS a v c 8), cb_up (cb_up (cb_up τ 0 9 (nI (aC a v c 4))) 0 10 (nI (aC a v c 7))) 0 11 (nI (aC a v c 8))) := m_add_c (τ := τ) (n := 8) hN (by omega) (by omega) hc (Or.inl rfl)
  unfold m_operate_L23
  rw [if_neg (show ¬ (2 : Int32) ≤ nI o from by rcases (show o = 0 ∨ o = 1 by omega) with rfl | rfl <;> decide), hA, cb_b2_e ea, cb_let_e, cb_bo_e (m_sum_c _ _ _ _), cb_bo_e (m_sf _ _ _), cb_up_up]
  generalize hT1 : cb_up (cb_up (cb_up τ 0 9 (nI (aC a v c 4))) 0 10 (nI (aC a v c 7))) 0 11 (nI (aC a v c 8)) = τ1
  have e9 : τ1 0 9 = nI (aC a v c 4) := by rw [← hT1]; rfl
  have e10 : τ1 0 10 = nI (aC a v c 7) := by rw [← hT1]; rfl
  have e11 : τ1 0 11 = nI (aC a v c 8) := by rw [← hT1]; rfl
  have e6 : τ1 2 6 = nI f := by rw [← hT1, ← hF]; rfl
  show some (cb_up (cb_up τ1 2 7 (nI (aS a v c 8))) 2 6 (sf (sf (sf (sf (sf (sf (τ1 2 6) 128 (if ((nI (aS a v c 8) >>> (((8 : Int32) - 1) &&& 31)) &&& 1) = 1 then 1 else 0)) 64 (if nI (aS a v c 8) = 0 then 1 else 0)) 16 (τ1 0 9)) 4 (if τ1 0 10 = τ1 0 11 then 0 else 1)) 2 (nI 0)) 1 (τ1 0 11))) = _
  have c4 := aC_le (a := a) (b := v) hc 4
  have c7 := aC_le (a := a) (b := v) hc 7
  have c8 := aC_le (a := a) (b := v) hc 8
  rw [e9, e10, e11, e6, sg_8 _ hlt, ze_8 (by omega), ov_m _ (le_2 c7) _ (le_2 c8), fl_all f hf hk _ (le_2 (t8_le hlt)) _ (le_2 (zf_le _)) _ (le_2 c4) _ (lt_2 _) 0 (by omega) _ (le_2 c8)]
theorem m_op_sub {N o v a f w : Nat} (hN : 8 < N) (ho : o = 2 ∨ o = 3 ∨ o = 7) (hA : τ 2 7 = nI a) (hF : τ 2 6 = nI f) (ha : a < 256) (hv : v < 256) (hw : w ≤ 1) (hf : f < 256) (hk : okF f = true) {B W : Nat} (eB : B = 255 - v) (eW : W = 1 - w) :
    ∃ τ1 : cb_S, m_operate_L23 N (nI o) (nI v) τ (nI w) = some (cb_up (cb_up τ1 2 6 (nI (fl (aS a B W 8 / 128) (zf (aS a B W 8)) (1 - aC a B W 4) ((aC a B W 7 + aC a B W 8) % 2) 1 (1 - aC a B W 8)))) 2 7 (if o = 7 then nI a else nI (aS a B W 8))) ∧ (∀ σ, cb_R g σ τ → cb_R g σ τ1) ∧ τ1 2 7 = nI a := by
  refine ⟨cb_up (cb_up (cb_up (cb_up (cb_up τ 0 9 (nI (aC a B W 4))) 0 10 (nI (aC a B W 7))) 0 11 (nI (aC a B W 8))) 0 9 (nI (1 - aC a B W 4))) 0 11 (nI (1 - aC a B W 8)), ?_, fun σ h => h, hA⟩
  have hW : W ≤ 1 := by rw [eW]; exact m1_le w
  have hlt : aS a B W 8 < 256 := aS_lt a B W 8
  have L : m_operate_L23 N (nI o) (nI v) τ (nI w) = m_operate_L93 N (nI o) (nI v) τ (nI w) := by rcases ho with rfl | rfl | rfl <;> rfl
  rw [L]
  unfold m_operate_L93
  have ea : m_subtract N τ (nI a) (nI v) (nI w) 8 = some (nI (aS a B W 8), cb_up (cb_up (cb_up (cb_up (cb_up τ 0 9 (nI (aC a B W 4))) 0 10 (nI (aC a B W 7))) 0 11 (nI (aC a B W 8))) 0 9 (nI (1 - aC a B W 4))) 0 11 (nI (1 - aC a B W 8))) := m_sub_c (τ := τ) (n := 8) hN (show a < 2 ^ 8 from ha) (show v < 2 ^ 8 from hv) hw (Or.inl rfl) (B := B) (W := W) eB eW
  rw [hA, cb_b2_e ea, cb_bo_e (m_sum_c _ _ _ _), cb_bo_e (m_sf _ _ _), cb_up_up, cb_let_e]
  generalize hT1 : cb_up (cb_up (cb_up (cb_up (cb_up τ 0 9 (nI (aC a B W 4))) 0 10 (nI (aC a B W 7))) 0 11 (nI (aC a B W 8))) 0 9 (nI (1 - aC a B W 4))) 0 11 (nI (1 - aC a B W 8)) = τ1
  have e9 : τ1 0 9 = nI (1 - aC a B W 4) := by rw [← hT1]; rfl
  have e10 : τ1 0 10 = nI (aC a B W 7) := by rw [← hT1]; rfl
  have e11 : τ1 0 11 = nI (1 - aC a B W 8) := by rw [← hT1]; rfl
  have e6 : τ1 2 6 = nI f := by rw [← hT1, ← hF]; rfl
  have e7 : τ1 2 7 = nI a := by rw [← hT1, ← hA]; rfl
  have c4 := aC_le (a := a) (b := B) hW 4
  have c7 := aC_le (a := a) (b := B) hW 7
  have c8 := aC_le (a := a) (b := B) hW 8
  have F6 : sf (sf (sf (sf (sf (sf (τ1 2 6) 128 (if ((nI (aS a B W 8) >>> (((8 : Int32) - 1) &&& 31)) &&& 1) = 1 then 1 else 0)) 64 (if nI (aS a B W 8) = 0 then 1 else 0)) 16 (τ1 0 9)) 4 (if τ1 0 10 = (if (1 : Int32) = 0 then τ1 0 11 else (if τ1 0 11 = 0 then 1 else 0)) then 0 else 1)) 2 1) 1 (τ1 0 11) = nI (fl (aS a B W 8 / 128) (zf (aS a B W 8)) (1 - aC a B W 4) ((aC a B W 7 + aC a B W 8) % 2) 1 (1 - aC a B W 8)) := by
    rw [e9, e10, e11, e6, if_neg (show ¬ (1 : Int32) = 0 by decide), sg_8 _ hlt, ze_8 (by omega), ov_s _ (le_2 c7) _ (le_2 c8)]
    exact fl_all f hf hk _ (le_2 (t8_le hlt)) _ (le_2 (zf_le _)) _ (le_2 (m1_le _)) _ (lt_2 _) 1 (by omega) _ (le_2 (m1_le _))
  rw [← F6]
  have e7' : (if o = 7 then nI a else nI (aS a B W 8)) = (if nI o = (7 : Int32) then τ1 2 7 else nI (aS a B W 8)) := by
    rw [e7]
    rcases ho with rfl | rfl | rfl <;> rfl
  rw [e7']
  rfl
theorem m_lg {r hh : Nat} (hr : r < 256) (h1 : hh ≤ 1) : m_logicFlags τ (nI r) (nI hh) 0 = some (cb_up τ 2 6 (nI (fl (r / 128) (zf r) hh (ev r) 0 0))) := by
  unfold m_logicFlags m_shown
  rw [cb_let_e, cb_bo_e (m_sf _ _ _), cb_bo_e (m_sf _ _ _), cb_bo_e (ev_m r hr).1, cb_bo_e (m_sf _ _ _)]
  show (cb_bo (m_setFlag _ 16 (nI hh)) fun τ => cb_bo (m_setFlag τ 1 0) fun τ => some τ) = _
  rw [cb_bo_e (m_sf _ _ _), cb_bo_e (m_sf _ _ _), cb_up_up, cb_up_up, cb_up_up, cb_up_up, cb_up_up]
  show some (cb_up τ 2 6 (sf (sf (sf (sf (sf 0 128 (if nI r ≤ (127 : Int32) then (0 : Int32) else 1)) 64 (if nI r = 0 then 1 else 0)) 4 (nI (ev r))) 16 (nI hh)) 1 0)) = _
  rw [s127 r hr, ze_8 (by omega), lg_all _ (le_2 (t8_le hr)) _ (le_2 (zf_le _)) _ (le_2 h1) _ (ev_m r hr).2]
end P9
