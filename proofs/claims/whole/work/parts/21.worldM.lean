def WM (a : Nat → Nat) (ca : Nat → ClassId) (σ : cb_S) : va_W := [
  (a 0, .inr (8, [.ref (a 1), .ref (a 2), .int (σ 0 2), .int (σ 0 3), .int (σ 0 4), .int (σ 0 5), .int (σ 0 6), .int (σ 0 7), .int (σ 0 8), .int (σ 0 9), .int (σ 0 10), .int (σ 0 11), .ref (a 3), .ref (a 4), .ref (a 5), .int (σ 0 15), .ref (a 6), .ref (a 7), .ref (a 8), .ref (a 9), .ref (a 10), .ref (a 11), .ref (a 12), .ref (a 13), .ref (a 14), .ref (a 15), .ref (a 16), .ref (a 17), .ref (a 18), .ref (a 19), .ref (a 20), .ref (a 21), .ref (a 22), .ref (a 23), .ref (a 24), .ref (a 25)])),
  (a 1, .inl (ca 0, 1024, .inl (σ 1))),
  (a 2, .inl (ca 0, 16, .inl (σ 2))),
  (a 3, .inl (ca 1, 4, .inl (σ 3))),
  (a 4, .inl (ca 1, 4, .inl (σ 4))),
  (a 5, .inl (ca 1, 4, .inl (σ 5))),
  (a 6, .inl (ca 0, 2, .inl (σ 6))),
  (a 7, .inl (ca 0, 2, .inl (σ 7))),
  (a 8, .inl (ca 0, 2, .inl (σ 8))),
  (a 9, .inl (ca 1, 2, .inl (σ 9))),
  (a 10, .inl (ca 1, 2, .inl (σ 10))),
  (a 11, .inl (ca 0, 2, .inl (σ 11))),
  (a 12, .inl (ca 1, 2, .inl (σ 12))),
  (a 13, .inl (ca 0, 2, .inl (σ 13))),
  (a 14, .inl (ca 0, 2, .inl (σ 14))),
  (a 15, .inl (ca 0, 2, .inl (σ 15))),
  (a 16, .inl (ca 0, 2, .inl (σ 16))),
  (a 17, .inl (ca 0, 2, .inl (σ 17))),
  (a 18, .inl (ca 1, 2, .inl (σ 18))),
  (a 19, .inl (ca 1, 2, .inl (σ 19))),
  (a 20, .inl (ca 1, 2, .inl (σ 20))),
  (a 21, .inl (ca 0, 2, .inl (σ 21))),
  (a 22, .inl (ca 0, 2, .inl (σ 22))),
  (a 23, .inl (ca 0, 2, .inl (σ 23))),
  (a 24, .inl (ca 1, 2, .inl (σ 24))),
  (a 25, .inl (ca 0, 3, .inl (σ 25)))]
def EM (ca : Nat → ClassId) : cb_E := (cb_T, cb_N, [(ca 0, .int), (ca 1, .boolean)])
def adM (a : Nat → Nat) : List Nat := [a 0, a 1, a 2, a 3, a 4, a 5, a 6, a 7, a 8, a 9, a 10, a 11, a 12, a 13, a 14, a 15, a 16, a 17, a 18, a 19, a 20, a 21, a 22, a 23, a 24, a 25]
theorem goodM {ca : Nat → ClassId} : cb_good (EM ca) := ⟨cb_T_good, cb_N_ok⟩
theorem WM_ad (a : Nat → Nat) (ca : Nat → ClassId) (σ : cb_S) : (WM a ca σ).map Prod.fst = adM a := rfl
theorem WM_nil (a : Nat → Nat) (ca : Nat → ClassId) (σ : cb_S) : WM a ca σ ++ [] = WM a ca σ := List.append_nil _
theorem uMX12 : ∀ w ∈ u_ws RX12 TX12 36, w ∈ cb_T := by
  intro w h
  obtain ⟨k, hk, rfl⟩ := List.mem_map.mp h
  have hk := List.mem_range.mp hk
  have h9 : k = 0 ∨ k = 1 ∨ k = 2 ∨ k = 3 ∨ k = 4 ∨ k = 5 ∨ k = 6 ∨ k = 7 ∨ k = 8 ∨ k = 9 ∨ k = 10 ∨ k = 11 ∨ k = 12 ∨ k = 13 ∨ k = 14 ∨ k = 15 ∨ k = 16 ∨ k = 17 ∨ k = 18 ∨ k = 19 ∨ k = 20 ∨ k = 21 ∨ k = 22 ∨ k = 23 ∨ k = 24 ∨ k = 25 ∨ k = 26 ∨ k = 27 ∨ k = 28 ∨ k = 29 ∨ k = 30 ∨ k = 31 ∨ k = 32 ∨ k = 33 ∨ k = 34 ∨ k = 35 := by omega
  rcases h9 with rfl | rfl | rfl | rfl | rfl | rfl | rfl | rfl | rfl | rfl | rfl | rfl | rfl | rfl | rfl | rfl | rfl | rfl | rfl | rfl | rfl | rfl | rfl | rfl | rfl | rfl | rfl | rfl | rfl | rfl | rfl | rfl | rfl | rfl | rfl | rfl
  · exact cb_t3 199 rfl rfl
  · exact cb_t3 201 rfl rfl
  · exact cb_t3 203 rfl rfl
  · exact cb_t3 205 rfl rfl
  · exact cb_t3 207 rfl rfl
  · exact cb_t3 209 rfl rfl
  · exact cb_t3 211 rfl rfl
  · exact cb_t3 213 rfl rfl
  · exact cb_t3 215 rfl rfl
  · exact cb_t3 217 rfl rfl
  · exact cb_t3 219 rfl rfl
  · exact cb_t3 221 rfl rfl
  · exact cb_t3 223 rfl rfl
  · exact cb_t3 225 rfl rfl
  · exact cb_t3 227 rfl rfl
  · exact cb_t3 229 rfl rfl
  · exact cb_t3 231 rfl rfl
  · exact cb_t3 233 rfl rfl
  · exact cb_t3 235 rfl rfl
  · exact cb_t3 237 rfl rfl
  · exact cb_t3 239 rfl rfl
  · exact cb_t4 1 rfl rfl
  · exact cb_t4 3 rfl rfl
  · exact cb_t4 5 rfl rfl
  · exact cb_t4 7 rfl rfl
  · exact cb_t4 9 rfl rfl
  · exact cb_t4 11 rfl rfl
  · exact cb_t4 13 rfl rfl
  · exact cb_t4 15 rfl rfl
  · exact cb_t4 17 rfl rfl
  · exact cb_t4 19 rfl rfl
  · exact cb_t4 21 rfl rfl
  · exact cb_t4 23 rfl rfl
  · exact cb_t4 25 rfl rfl
  · exact cb_t4 27 rfl rfl
  · exact cb_t4 29 rfl rfl
