def WC (a : Nat → Nat) (ca : Nat → ClassId) (σ : cb_S) : va_W := [
  (a 0, .inr (7, [.ref (a 1), .ref (a 2), .ref (a 3)])),
  (a 1, .inr (3, [.ref (a 4)])),
  (a 2, .inr (1, [.ref (a 5), .ref (a 6), .ref (a 7), .ref (a 8), .ref (a 9)])),
  (a 3, .inr (5, [.ref (a 10), .ref (a 1), .ref (a 2), .ref (a 11), .ref (a 12), .int (σ 3 5), .int (σ 3 6), .int (σ 3 7), .int (σ 3 8), .int (σ 3 9), .int (σ 3 10), .int (σ 3 11), .int (σ 3 12)])),
  (a 4, .inl (ca 0, 1024, .inl (σ 4))),
  (a 5, .inl (ca 1, 4, .inr (.inr (.inr (.inr (fun i => some (a (6 + i)))))))),
  (a 6, .inr (2, [.int (σ 6 0), .int (σ 6 1), .int (σ 6 2), .int (σ 6 3), .int (σ 6 4), .int (σ 6 5), .int (σ 6 6), .int (σ 6 7), .int (σ 6 8), .int (σ 6 9), .int (σ 6 10)])),
  (a 7, .inr (2, [.int (σ 7 0), .int (σ 7 1), .int (σ 7 2), .int (σ 7 3), .int (σ 7 4), .int (σ 7 5), .int (σ 7 6), .int (σ 7 7), .int (σ 7 8), .int (σ 7 9), .int (σ 7 10)])),
  (a 8, .inr (4, [.int (σ 8 0), .int (σ 8 1), .int (σ 8 2), .int (σ 8 3), .int (σ 8 4), .int (σ 8 5), .int (σ 8 6), .int (σ 8 7), .int (σ 8 8), .int (σ 8 9), .int (σ 8 10), .int (σ 8 11), .int (σ 8 12), .int (σ 8 13), .int (σ 8 14), .int (σ 8 15)])),
  (a 9, .inr (4, [.int (σ 9 0), .int (σ 9 1), .int (σ 9 2), .int (σ 9 3), .int (σ 9 4), .int (σ 9 5), .int (σ 9 6), .int (σ 9 7), .int (σ 9 8), .int (σ 9 9), .int (σ 9 10), .int (σ 9 11), .int (σ 9 12), .int (σ 9 13), .int (σ 9 14), .int (σ 9 15)])),
  (a 10, .inr (6, [.ref (a 11), .ref (a 13), .int (σ 10 2), .int (σ 10 3), .int (σ 10 4)])),
  (a 11, .inr (0, [.ref (a 12)])),
  (a 12, .inl (ca 0, 8, .inl (σ 12))),
  (a 13, .inr (0, [.ref (a 14)])),
  (a 14, .inl (ca 0, 8, .inl (σ 14)))]
def EC (ca : Nat → ClassId) : cb_E := (cb_T, cb_N, [(ca 0, .int), (ca 1, .object "ChainBoard$Device")])
def adC (a : Nat → Nat) : List Nat := [a 0, a 1, a 2, a 3, a 4, a 5, a 6, a 7, a 8, a 9, a 10, a 11, a 12, a 13, a 14]
theorem goodC {ca : Nat → ClassId} : cb_good (EC ca) := ⟨cb_T_good, cb_N_ok⟩
theorem WC_ad (a : Nat → Nat) (ca : Nat → ClassId) (σ : cb_S) : (WC a ca σ).map Prod.fst = adC a := rfl
theorem WC_nil (a : Nat → Nat) (ca : Nat → ClassId) (σ : cb_S) : WC a ca σ ++ [] = WC a ca σ := List.append_nil _
theorem uCX2 : ∀ w ∈ u_ws RX2 TX2 1, w ∈ cb_T := by
  intro w h
  obtain ⟨k, hk, rfl⟩ := List.mem_map.mp h
  have hk := List.mem_range.mp hk
  have h9 : k = 0 := by omega
  rcases h9 with rfl
  · exact cb_t1 189 rfl rfl
theorem uCX3 : ∀ w ∈ u_ws RX3 TX3 5, w ∈ cb_T := by
  intro w h
  obtain ⟨k, hk, rfl⟩ := List.mem_map.mp h
  have hk := List.mem_range.mp hk
  have h9 : k = 0 ∨ k = 1 ∨ k = 2 ∨ k = 3 ∨ k = 4 := by omega
  rcases h9 with rfl | rfl | rfl | rfl | rfl
  · exact cb_t1 158 rfl rfl
  · exact cb_t1 160 rfl rfl
  · exact cb_t1 162 rfl rfl
  · exact cb_t1 164 rfl rfl
  · exact cb_t1 166 rfl rfl
theorem uCX4 : ∀ w ∈ u_ws RX4 TX4 11, w ∈ cb_T := by
  intro w h
  obtain ⟨k, hk, rfl⟩ := List.mem_map.mp h
  have hk := List.mem_range.mp hk
  have h9 : k = 0 ∨ k = 1 ∨ k = 2 ∨ k = 3 ∨ k = 4 ∨ k = 5 ∨ k = 6 ∨ k = 7 ∨ k = 8 ∨ k = 9 ∨ k = 10 := by omega
  rcases h9 with rfl | rfl | rfl | rfl | rfl | rfl | rfl | rfl | rfl | rfl | rfl
  · exact cb_t1 94 rfl rfl
  · exact cb_t1 96 rfl rfl
  · exact cb_t1 98 rfl rfl
  · exact cb_t1 100 rfl rfl
  · exact cb_t1 80 rfl rfl
  · exact cb_t1 82 rfl rfl
  · exact cb_t1 84 rfl rfl
  · exact cb_t1 86 rfl rfl
  · exact cb_t1 88 rfl rfl
  · exact cb_t1 90 rfl rfl
  · exact cb_t1 92 rfl rfl
theorem uCX7 : ∀ w ∈ u_ws RX7 TX7 1, w ∈ cb_T := by
  intro w h
  obtain ⟨k, hk, rfl⟩ := List.mem_map.mp h
  have hk := List.mem_range.mp hk
  have h9 : k = 0 := by omega
  rcases h9 with rfl
  · exact cb_t1 28 rfl rfl
theorem uCX8 : ∀ w ∈ u_ws RX8 TX8 16, w ∈ cb_T := by
  intro w h
  obtain ⟨k, hk, rfl⟩ := List.mem_map.mp h
  have hk := List.mem_range.mp hk
  have h9 : k = 0 ∨ k = 1 ∨ k = 2 ∨ k = 3 ∨ k = 4 ∨ k = 5 ∨ k = 6 ∨ k = 7 ∨ k = 8 ∨ k = 9 ∨ k = 10 ∨ k = 11 ∨ k = 12 ∨ k = 13 ∨ k = 14 ∨ k = 15 := by omega
  rcases h9 with rfl | rfl | rfl | rfl | rfl | rfl | rfl | rfl | rfl | rfl | rfl | rfl | rfl | rfl | rfl | rfl
  · exact cb_t1 145 rfl rfl
  · exact cb_t1 146 rfl rfl
  · exact cb_t1 147 rfl rfl
  · exact cb_t1 148 rfl rfl
  · exact cb_t1 121 rfl rfl
  · exact cb_t1 123 rfl rfl
  · exact cb_t1 125 rfl rfl
  · exact cb_t1 127 rfl rfl
  · exact cb_t1 129 rfl rfl
  · exact cb_t1 131 rfl rfl
  · exact cb_t1 133 rfl rfl
  · exact cb_t1 135 rfl rfl
  · exact cb_t1 137 rfl rfl
  · exact cb_t1 139 rfl rfl
  · exact cb_t1 141 rfl rfl
  · exact cb_t1 143 rfl rfl
theorem uCX9 : ∀ w ∈ u_ws RX9 TX9 13, w ∈ cb_T := by
  intro w h
  obtain ⟨k, hk, rfl⟩ := List.mem_map.mp h
  have hk := List.mem_range.mp hk
  have h9 : k = 0 ∨ k = 1 ∨ k = 2 ∨ k = 3 ∨ k = 4 ∨ k = 5 ∨ k = 6 ∨ k = 7 ∨ k = 8 ∨ k = 9 ∨ k = 10 ∨ k = 11 ∨ k = 12 := by omega
  rcases h9 with rfl | rfl | rfl | rfl | rfl | rfl | rfl | rfl | rfl | rfl | rfl | rfl | rfl
  · exact cb_t1 234 rfl rfl
  · exact cb_t1 236 rfl rfl
  · exact cb_t1 238 rfl rfl
  · exact cb_t2 0 rfl rfl
  · exact cb_t2 2 rfl rfl
  · exact cb_t2 4 rfl rfl
  · exact cb_t2 6 rfl rfl
  · exact cb_t2 8 rfl rfl
  · exact cb_t2 10 rfl rfl
  · exact cb_t2 12 rfl rfl
  · exact cb_t2 14 rfl rfl
  · exact cb_t2 16 rfl rfl
  · exact cb_t2 18 rfl rfl
theorem uCX10 : ∀ w ∈ u_ws RX10 TX10 5, w ∈ cb_T := by
  intro w h
  obtain ⟨k, hk, rfl⟩ := List.mem_map.mp h
  have hk := List.mem_range.mp hk
  have h9 : k = 0 ∨ k = 1 ∨ k = 2 ∨ k = 3 ∨ k = 4 := by omega
  rcases h9 with rfl | rfl | rfl | rfl | rfl
  · exact cb_t1 202 rfl rfl
  · exact cb_t1 204 rfl rfl
  · exact cb_t1 206 rfl rfl
  · exact cb_t1 208 rfl rfl
  · exact cb_t1 210 rfl rfl
theorem uCX1 : ∀ w ∈ u_ws RX1 TX1 3, w ∈ cb_T := by
  intro w h
  obtain ⟨k, hk, rfl⟩ := List.mem_map.mp h
  have hk := List.mem_range.mp hk
  have h9 : k = 0 ∨ k = 1 ∨ k = 2 := by omega
  rcases h9 with rfl | rfl | rfl
  · exact cb_t2 24 rfl rfl
  · exact cb_t2 26 rfl rfl
  · exact cb_t2 28 rfl rfl
