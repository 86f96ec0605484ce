section P9
theorem sg_8 : ∀ R, R < 256 → (if ((nI R >>> (((8 : Int32) - 1) &&& 31)) &&& 1) = 1 then (1 : Int32) else 0) = nI (R / 128) := by decide +kernel
theorem ze_8 {R : Nat} (h : R < 65536) : (if nI R = 0 then (1 : Int32) else 0) = nI (zf R) := by
  unfold zf
  by_cases hR : R = 0
  · subst hR; rfl
  · rw [if_neg (nI_ne0 (by omega) (by omega)), if_neg hR]; rfl
theorem ov_m : ∀ i, i < 2 → ∀ o, o < 2 → (if nI i = nI o then (0 : Int32) else 1) = nI ((i + o) % 2) := by decide +kernel
theorem ov_s : ∀ i, i < 2 → ∀ o, o < 2 → (if nI i = (if nI (1 - o) = 0 then (1 : Int32) else 0) then (0 : Int32) else 1) = nI ((i + o) % 2) := by decide +kernel
def ev (r : Nat) : Nat := match m_even (nI r) with
  | some x => if x = 0 then 0 else 1
  | none => 0
theorem ev_m : ∀ r, r < 256 → m_even (nI r) = some (nI (ev r)) ∧ ev r < 2 := by decide +kernel
theorem wp_c : ∀ r, r < 256 → c_Flags_withParity (nI r) = some (nI (r * 256 + fl (r / 128) (zf r) 0 (ev r) 0 0)) := by decide +kernel
theorem wp_h : ∀ r, r < 256 → nI (r * 256 + fl (r / 128) (zf r) 0 (ev r) 0 0) ||| 16 = nI (r * 256 + fl (r / 128) (zf r) 1 (ev r) 0 0) := by decide +kernel
theorem s127 : ∀ r, r < 256 → (if nI r ≤ (127 : Int32) then (0 : Int32) else 1) = nI (r / 128) := by decide +kernel
theorem lg_all : ∀ s, s < 2 → ∀ z, z < 2 → ∀ h, h < 2 → ∀ p, p < 2 → sf (sf (sf (sf (sf 0 128 (nI s)) 64 (nI z)) 4 (nI p)) 16 (nI h)) 1 0 = nI (fl s z h p 0 0) := by decide +kernel
end P9
