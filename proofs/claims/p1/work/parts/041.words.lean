def sgS : Nat → List Cond := fun k => match k with | 0 => k2_sels lw_privs | 1 => tables_1_1 | 2 => tables_1_2 | 3 => tables_1_3 | 4 => tables_1_4 | 5 => tables_1_5 | 6 => tables_1_6 | 7 => tables_1_7 | _ => []
theorem sgS_in : ∀ k : Nat, ∀ w ∈ sgS k, w ∈ lw_tbl := by
  intro k w hw
  unfold lw_tbl tables_1
  simp only [List.mem_append]
  match k, hw with
  | 0, hw => exact Or.inl hw
  | 1, hw => exact Or.inr (Or.inl hw)
  | 2, hw => exact Or.inr (Or.inr (Or.inl hw))
  | 3, hw => exact Or.inr (Or.inr (Or.inr (Or.inl hw)))
  | 4, hw => exact Or.inr (Or.inr (Or.inr (Or.inr (Or.inl hw))))
  | 5, hw => exact Or.inr (Or.inr (Or.inr (Or.inr (Or.inr (Or.inl hw)))))
  | 6, hw => exact Or.inr (Or.inr (Or.inr (Or.inr (Or.inr (Or.inr (Or.inl hw))))))
  | 7, hw => exact Or.inr (Or.inr (Or.inr (Or.inr (Or.inr (Or.inr (Or.inr (hw)))))))
  | k + 8, hw => exact absurd hw (by simp [sgS])
/-- the words: those of the tables that a contract may name -/
def gwL : List Cond := lw_tbl.filter goodWord
theorem gwL_in : ∀ w ∈ gwL, w ∈ lw_tbl := fun _ h => (List.mem_filter.mp h).1
theorem gw_good : ∀ w ∈ gwL, goodWord w = true := fun _ h => (List.mem_filter.mp h).2
theorem gw_at (k : Nat) {w : Cond} {z : List Cond} (hz : sgS k = z) (h : w ∈ z) (hg : goodWord w = true) : w ∈ gwL := List.mem_filter.mpr ⟨sgS_in k w (hz ▸ h), hg⟩
theorem gx_11 : ∀ w ∈ wsX110, w ∈ gwL := by
  intro w hw
  obtain ⟨k, hk, rfl⟩ := List.mem_map.mp hw
  have hk := List.mem_range.mp hk
  match k, hk with
  | 0, _ => exact gw_at 2 (z := tables_1_2) rfl (List.mem_of_getElem? (i := 129) rfl) rfl
  | 1, _ => exact gw_at 2 (z := tables_1_2) rfl (List.mem_of_getElem? (i := 131) rfl) rfl
  | 2, _ => exact gw_at 2 (z := tables_1_2) rfl (List.mem_of_getElem? (i := 133) rfl) rfl
  | 3, _ => exact gw_at 2 (z := tables_1_2) rfl (List.mem_of_getElem? (i := 135) rfl) rfl
  | 4, _ => exact gw_at 2 (z := tables_1_2) rfl (List.mem_of_getElem? (i := 137) rfl) rfl
  | 5, _ => exact gw_at 2 (z := tables_1_2) rfl (List.mem_of_getElem? (i := 139) rfl) rfl
  | 6, _ => exact gw_at 2 (z := tables_1_2) rfl (List.mem_of_getElem? (i := 141) rfl) rfl
  | 7, _ => exact gw_at 2 (z := tables_1_2) rfl (List.mem_of_getElem? (i := 143) rfl) rfl
  | 8, _ => exact gw_at 2 (z := tables_1_2) rfl (List.mem_of_getElem? (i := 145) rfl) rfl
  | 9, _ => exact gw_at 2 (z := tables_1_2) rfl (List.mem_of_getElem? (i := 147) rfl) rfl
  | k + 10, h => exact absurd h (by omega)
theorem inX11 : ∀ w ∈ wsX110, w ∈ lw_tbl := fun w h => gwL_in w (gx_11 w h)
theorem gx_12 : ∀ w ∈ wsX120, w ∈ gwL := by
  intro w hw
  obtain ⟨k, hk, rfl⟩ := List.mem_map.mp hw
  have hk := List.mem_range.mp hk
  match k, hk with
  | 0, _ => exact gw_at 5 (z := tables_1_5) rfl (List.mem_of_getElem? (i := 117) rfl) rfl
  | 1, _ => exact gw_at 5 (z := tables_1_5) rfl (List.mem_of_getElem? (i := 119) rfl) rfl
  | 2, _ => exact gw_at 5 (z := tables_1_5) rfl (List.mem_of_getElem? (i := 121) rfl) rfl
  | 3, _ => exact gw_at 5 (z := tables_1_5) rfl (List.mem_of_getElem? (i := 123) rfl) rfl
  | 4, _ => exact gw_at 5 (z := tables_1_5) rfl (List.mem_of_getElem? (i := 125) rfl) rfl
  | 5, _ => exact gw_at 5 (z := tables_1_5) rfl (List.mem_of_getElem? (i := 127) rfl) rfl
  | 6, _ => exact gw_at 5 (z := tables_1_5) rfl (List.mem_of_getElem? (i := 129) rfl) rfl
  | 7, _ => exact gw_at 5 (z := tables_1_5) rfl (List.mem_of_getElem? (i := 131) rfl) rfl
  | 8, _ => exact gw_at 5 (z := tables_1_5) rfl (List.mem_of_getElem? (i := 133) rfl) rfl
  | 9, _ => exact gw_at 5 (z := tables_1_5) rfl (List.mem_of_getElem? (i := 135) rfl) rfl
  | 10, _ => exact gw_at 5 (z := tables_1_5) rfl (List.mem_of_getElem? (i := 137) rfl) rfl
  | 11, _ => exact gw_at 5 (z := tables_1_5) rfl (List.mem_of_getElem? (i := 139) rfl) rfl
  | 12, _ => exact gw_at 5 (z := tables_1_5) rfl (List.mem_of_getElem? (i := 141) rfl) rfl
  | 13, _ => exact gw_at 5 (z := tables_1_5) rfl (List.mem_of_getElem? (i := 143) rfl) rfl
  | 14, _ => exact gw_at 5 (z := tables_1_5) rfl (List.mem_of_getElem? (i := 145) rfl) rfl
  | 15, _ => exact gw_at 5 (z := tables_1_5) rfl (List.mem_of_getElem? (i := 147) rfl) rfl
  | 16, _ => exact gw_at 5 (z := tables_1_5) rfl (List.mem_of_getElem? (i := 149) rfl) rfl
  | 17, _ => exact gw_at 5 (z := tables_1_5) rfl (List.mem_of_getElem? (i := 151) rfl) rfl
  | 18, _ => exact gw_at 5 (z := tables_1_5) rfl (List.mem_of_getElem? (i := 153) rfl) rfl
  | 19, _ => exact gw_at 5 (z := tables_1_5) rfl (List.mem_of_getElem? (i := 155) rfl) rfl
  | 20, _ => exact gw_at 5 (z := tables_1_5) rfl (List.mem_of_getElem? (i := 157) rfl) rfl
  | 21, _ => exact gw_at 5 (z := tables_1_5) rfl (List.mem_of_getElem? (i := 159) rfl) rfl
  | 22, _ => exact gw_at 5 (z := tables_1_5) rfl (List.mem_of_getElem? (i := 161) rfl) rfl
  | 23, _ => exact gw_at 5 (z := tables_1_5) rfl (List.mem_of_getElem? (i := 163) rfl) rfl
  | 24, _ => exact gw_at 5 (z := tables_1_5) rfl (List.mem_of_getElem? (i := 165) rfl) rfl
  | 25, _ => exact gw_at 5 (z := tables_1_5) rfl (List.mem_of_getElem? (i := 167) rfl) rfl
  | 26, _ => exact gw_at 5 (z := tables_1_5) rfl (List.mem_of_getElem? (i := 169) rfl) rfl
  | 27, _ => exact gw_at 5 (z := tables_1_5) rfl (List.mem_of_getElem? (i := 171) rfl) rfl
  | 28, _ => exact gw_at 5 (z := tables_1_5) rfl (List.mem_of_getElem? (i := 173) rfl) rfl
  | 29, _ => exact gw_at 5 (z := tables_1_5) rfl (List.mem_of_getElem? (i := 175) rfl) rfl
  | 30, _ => exact gw_at 5 (z := tables_1_5) rfl (List.mem_of_getElem? (i := 177) rfl) rfl
  | 31, _ => exact gw_at 5 (z := tables_1_5) rfl (List.mem_of_getElem? (i := 179) rfl) rfl
  | 32, _ => exact gw_at 5 (z := tables_1_5) rfl (List.mem_of_getElem? (i := 181) rfl) rfl
  | 33, _ => exact gw_at 5 (z := tables_1_5) rfl (List.mem_of_getElem? (i := 183) rfl) rfl
  | 34, _ => exact gw_at 5 (z := tables_1_5) rfl (List.mem_of_getElem? (i := 185) rfl) rfl
  | 35, _ => exact gw_at 5 (z := tables_1_5) rfl (List.mem_of_getElem? (i := 187) rfl) rfl
  | 36, _ => exact gw_at 5 (z := tables_1_5) rfl (List.mem_of_getElem? (i := 189) rfl) rfl
  | 37, _ => exact gw_at 5 (z := tables_1_5) rfl (List.mem_of_getElem? (i := 191) rfl) rfl
  | 38, _ => exact gw_at 5 (z := tables_1_5) rfl (List.mem_of_getElem? (i := 193) rfl) rfl
  | 39, _ => exact gw_at 5 (z := tables_1_5) rfl (List.mem_of_getElem? (i := 195) rfl) rfl
  | 40, _ => exact gw_at 5 (z := tables_1_5) rfl (List.mem_of_getElem? (i := 197) rfl) rfl
  | 41, _ => exact gw_at 5 (z := tables_1_5) rfl (List.mem_of_getElem? (i := 199) rfl) rfl
  | 42, _ => exact gw_at 5 (z := tables_1_5) rfl (List.mem_of_getElem? (i := 201) rfl) rfl
  | 43, _ => exact gw_at 5 (z := tables_1_5) rfl (List.mem_of_getElem? (i := 203) rfl) rfl
  | 44, _ => exact gw_at 5 (z := tables_1_5) rfl (List.mem_of_getElem? (i := 205) rfl) rfl
  | 45, _ => exact gw_at 5 (z := tables_1_5) rfl (List.mem_of_getElem? (i := 207) rfl) rfl
  | 46, _ => exact gw_at 5 (z := tables_1_5) rfl (List.mem_of_getElem? (i := 209) rfl) rfl
  | 47, _ => exact gw_at 5 (z := tables_1_5) rfl (List.mem_of_getElem? (i := 211) rfl) rfl
  | 48, _ => exact gw_at 5 (z := tables_1_5) rfl (List.mem_of_getElem? (i := 213) rfl) rfl
  | 49, _ => exact gw_at 5 (z := tables_1_5) rfl (List.mem_of_getElem? (i := 215) rfl) rfl
  | 50, _ => exact gw_at 5 (z := tables_1_5) rfl (List.mem_of_getElem? (i := 217) rfl) rfl
  | 51, _ => exact gw_at 5 (z := tables_1_5) rfl (List.mem_of_getElem? (i := 219) rfl) rfl
  | 52, _ => exact gw_at 5 (z := tables_1_5) rfl (List.mem_of_getElem? (i := 221) rfl) rfl
  | 53, _ => exact gw_at 5 (z := tables_1_5) rfl (List.mem_of_getElem? (i := 223) rfl) rfl
  | 54, _ => exact gw_at 5 (z := tables_1_5) rfl (List.mem_of_getElem? (i := 225) rfl) rfl
  | k + 55, h => exact absurd h (by omega)
theorem inX12 : ∀ w ∈ wsX120, w ∈ lw_tbl := fun w h => gwL_in w (gx_12 w h)
theorem gx_0 : ∀ w ∈ wsX00, w ∈ gwL := by
  intro w hw
  obtain ⟨k, hk, rfl⟩ := List.mem_map.mp hw
  have hk := List.mem_range.mp hk
  match k, hk with
  | 0, _ => exact gw_at 1 (z := tables_1_1) rfl (List.mem_of_getElem? (i := 86) rfl) rfl
  | 1, _ => exact gw_at 1 (z := tables_1_1) rfl (List.mem_of_getElem? (i := 88) rfl) rfl
  | 2, _ => exact gw_at 1 (z := tables_1_1) rfl (List.mem_of_getElem? (i := 90) rfl) rfl
  | 3, _ => exact gw_at 1 (z := tables_1_1) rfl (List.mem_of_getElem? (i := 92) rfl) rfl
  | 4, _ => exact gw_at 1 (z := tables_1_1) rfl (List.mem_of_getElem? (i := 94) rfl) rfl
  | k + 5, h => exact absurd h (by omega)
theorem inX0 : ∀ w ∈ wsX00, w ∈ lw_tbl := fun w h => gwL_in w (gx_0 w h)
theorem gx_10 : ∀ w ∈ wsX100, w ∈ gwL := by
  intro w hw
  obtain ⟨k, hk, rfl⟩ := List.mem_map.mp hw
  have hk := List.mem_range.mp hk
  match k, hk with
  | 0, _ => exact gw_at 1 (z := tables_1_1) rfl (List.mem_of_getElem? (i := 115) rfl) rfl
  | 1, _ => exact gw_at 1 (z := tables_1_1) rfl (List.mem_of_getElem? (i := 117) rfl) rfl
  | 2, _ => exact gw_at 1 (z := tables_1_1) rfl (List.mem_of_getElem? (i := 119) rfl) rfl
  | 3, _ => exact gw_at 1 (z := tables_1_1) rfl (List.mem_of_getElem? (i := 121) rfl) rfl
  | k + 4, h => exact absurd h (by omega)
theorem inX10 : ∀ w ∈ wsX100, w ∈ lw_tbl := fun w h => gwL_in w (gx_10 w h)
theorem gx_4 : ∀ w ∈ wsX40, w ∈ gwL := by
  intro w hw
  obtain ⟨k, hk, rfl⟩ := List.mem_map.mp hw
  have hk := List.mem_range.mp hk
  match k, hk with
  | 0, _ => exact gw_at 1 (z := tables_1_1) rfl (List.mem_of_getElem? (i := 147) rfl) rfl
  | 1, _ => exact gw_at 1 (z := tables_1_1) rfl (List.mem_of_getElem? (i := 149) rfl) rfl
  | 2, _ => exact gw_at 1 (z := tables_1_1) rfl (List.mem_of_getElem? (i := 151) rfl) rfl
  | 3, _ => exact gw_at 1 (z := tables_1_1) rfl (List.mem_of_getElem? (i := 153) rfl) rfl
  | 4, _ => exact gw_at 1 (z := tables_1_1) rfl (List.mem_of_getElem? (i := 155) rfl) rfl
  | 5, _ => exact gw_at 1 (z := tables_1_1) rfl (List.mem_of_getElem? (i := 157) rfl) rfl
  | 6, _ => exact gw_at 1 (z := tables_1_1) rfl (List.mem_of_getElem? (i := 159) rfl) rfl
  | 7, _ => exact gw_at 1 (z := tables_1_1) rfl (List.mem_of_getElem? (i := 161) rfl) rfl
  | 8, _ => exact gw_at 1 (z := tables_1_1) rfl (List.mem_of_getElem? (i := 163) rfl) rfl
  | 9, _ => exact gw_at 1 (z := tables_1_1) rfl (List.mem_of_getElem? (i := 165) rfl) rfl
  | 10, _ => exact gw_at 1 (z := tables_1_1) rfl (List.mem_of_getElem? (i := 167) rfl) rfl
  | k + 11, h => exact absurd h (by omega)
theorem inX4 : ∀ w ∈ wsX40, w ∈ lw_tbl := fun w h => gwL_in w (gx_4 w h)
theorem gx_8 : ∀ w ∈ wsX80, w ∈ gwL := by
  intro w hw
  obtain ⟨k, hk, rfl⟩ := List.mem_map.mp hw
  have hk := List.mem_range.mp hk
  match k, hk with
  | 0, _ => exact gw_at 1 (z := tables_1_1) rfl (List.mem_of_getElem? (i := 189) rfl) rfl
  | 1, _ => exact gw_at 1 (z := tables_1_1) rfl (List.mem_of_getElem? (i := 191) rfl) rfl
  | 2, _ => exact gw_at 1 (z := tables_1_1) rfl (List.mem_of_getElem? (i := 193) rfl) rfl
  | 3, _ => exact gw_at 1 (z := tables_1_1) rfl (List.mem_of_getElem? (i := 195) rfl) rfl
  | 4, _ => exact gw_at 1 (z := tables_1_1) rfl (List.mem_of_getElem? (i := 197) rfl) rfl
  | 5, _ => exact gw_at 1 (z := tables_1_1) rfl (List.mem_of_getElem? (i := 199) rfl) rfl
  | 6, _ => exact gw_at 1 (z := tables_1_1) rfl (List.mem_of_getElem? (i := 201) rfl) rfl
  | 7, _ => exact gw_at 1 (z := tables_1_1) rfl (List.mem_of_getElem? (i := 203) rfl) rfl
  | 8, _ => exact gw_at 1 (z := tables_1_1) rfl (List.mem_of_getElem? (i := 205) rfl) rfl
  | 9, _ => exact gw_at 1 (z := tables_1_1) rfl (List.mem_of_getElem? (i := 207) rfl) rfl
  | 10, _ => exact gw_at 1 (z := tables_1_1) rfl (List.mem_of_getElem? (i := 209) rfl) rfl
  | 11, _ => exact gw_at 1 (z := tables_1_1) rfl (List.mem_of_getElem? (i := 211) rfl) rfl
  | 12, _ => exact gw_at 1 (z := tables_1_1) rfl (List.mem_of_getElem? (i := 213) rfl) rfl
  | k + 13, h => exact absurd h (by omega)
theorem inX8 : ∀ w ∈ wsX80, w ∈ lw_tbl := fun w h => gwL_in w (gx_8 w h)
theorem gx_9 : ∀ w ∈ wsX90, w ∈ gwL := by
  intro w hw
  obtain ⟨k, hk, rfl⟩ := List.mem_map.mp hw
  have hk := List.mem_range.mp hk
  match k, hk with
  | 0, _ => exact gw_at 1 (z := tables_1_1) rfl (List.mem_of_getElem? (i := 226) rfl) rfl
  | 1, _ => exact gw_at 1 (z := tables_1_1) rfl (List.mem_of_getElem? (i := 228) rfl) rfl
  | 2, _ => exact gw_at 1 (z := tables_1_1) rfl (List.mem_of_getElem? (i := 230) rfl) rfl
  | k + 3, h => exact absurd h (by omega)
theorem inX9 : ∀ w ∈ wsX90, w ∈ lw_tbl := fun w h => gwL_in w (gx_9 w h)
theorem gx_6 : ∀ w ∈ wsX60, w ∈ gwL := by
  intro w hw
  obtain ⟨k, hk, rfl⟩ := List.mem_map.mp hw
  have hk := List.mem_range.mp hk
  match k, hk with
  | 0, _ => exact gw_at 2 (z := tables_1_2) rfl (List.mem_of_getElem? (i := 2) rfl) rfl
  | 1, _ => exact gw_at 2 (z := tables_1_2) rfl (List.mem_of_getElem? (i := 4) rfl) rfl
  | 2, _ => exact gw_at 2 (z := tables_1_2) rfl (List.mem_of_getElem? (i := 6) rfl) rfl
  | k + 3, h => exact absurd h (by omega)
theorem inX6 : ∀ w ∈ wsX60, w ∈ lw_tbl := fun w h => gwL_in w (gx_6 w h)
theorem gx_2 : ∀ w ∈ wsX20, w ∈ gwL := by
  intro w hw
  obtain ⟨k, hk, rfl⟩ := List.mem_map.mp hw
  have hk := List.mem_range.mp hk
  match k, hk with
  | 0, _ => exact gw_at 2 (z := tables_1_2) rfl (List.mem_of_getElem? (i := 22) rfl) rfl
  | 1, _ => exact gw_at 2 (z := tables_1_2) rfl (List.mem_of_getElem? (i := 24) rfl) rfl
  | 2, _ => exact gw_at 2 (z := tables_1_2) rfl (List.mem_of_getElem? (i := 26) rfl) rfl
  | 3, _ => exact gw_at 2 (z := tables_1_2) rfl (List.mem_of_getElem? (i := 28) rfl) rfl
  | 4, _ => exact gw_at 2 (z := tables_1_2) rfl (List.mem_of_getElem? (i := 30) rfl) rfl
  | 5, _ => exact gw_at 2 (z := tables_1_2) rfl (List.mem_of_getElem? (i := 32) rfl) rfl
  | k + 6, h => exact absurd h (by omega)
theorem inX2 : ∀ w ∈ wsX20, w ∈ lw_tbl := fun w h => gwL_in w (gx_2 w h)
theorem gx_1 : ∀ w ∈ wsX10, w ∈ gwL := by
  intro w hw
  obtain ⟨k, hk, rfl⟩ := List.mem_map.mp hw
  have hk := List.mem_range.mp hk
  match k, hk with
  | 0, _ => exact gw_at 2 (z := tables_1_2) rfl (List.mem_of_getElem? (i := 51) rfl) rfl
  | 1, _ => exact gw_at 2 (z := tables_1_2) rfl (List.mem_of_getElem? (i := 53) rfl) rfl
  | 2, _ => exact gw_at 2 (z := tables_1_2) rfl (List.mem_of_getElem? (i := 55) rfl) rfl
  | 3, _ => exact gw_at 2 (z := tables_1_2) rfl (List.mem_of_getElem? (i := 57) rfl) rfl
  | 4, _ => exact gw_at 2 (z := tables_1_2) rfl (List.mem_of_getElem? (i := 59) rfl) rfl
  | k + 5, h => exact absurd h (by omega)
theorem inX1 : ∀ w ∈ wsX10, w ∈ lw_tbl := fun w h => gwL_in w (gx_1 w h)
theorem gx_3 : ∀ w ∈ wsX30, w ∈ gwL := by
  intro w hw
  obtain ⟨k, hk, rfl⟩ := List.mem_map.mp hw
  have hk := List.mem_range.mp hk
  match k, hk with
  | 0, _ => exact gw_at 2 (z := tables_1_2) rfl (List.mem_of_getElem? (i := 77) rfl) rfl
  | 1, _ => exact gw_at 2 (z := tables_1_2) rfl (List.mem_of_getElem? (i := 79) rfl) rfl
  | 2, _ => exact gw_at 2 (z := tables_1_2) rfl (List.mem_of_getElem? (i := 81) rfl) rfl
  | 3, _ => exact gw_at 2 (z := tables_1_2) rfl (List.mem_of_getElem? (i := 83) rfl) rfl
  | 4, _ => exact gw_at 2 (z := tables_1_2) rfl (List.mem_of_getElem? (i := 85) rfl) rfl
  | 5, _ => exact gw_at 2 (z := tables_1_2) rfl (List.mem_of_getElem? (i := 87) rfl) rfl
  | k + 6, h => exact absurd h (by omega)
theorem inX3 : ∀ w ∈ wsX30, w ∈ lw_tbl := fun w h => gwL_in w (gx_3 w h)
theorem gx_7 : ∀ w ∈ wsX70, w ∈ gwL := by
  intro w hw
  obtain ⟨k, hk, rfl⟩ := List.mem_map.mp hw
  have hk := List.mem_range.mp hk
  match k, hk with
  | 0, _ => exact gw_at 2 (z := tables_1_2) rfl (List.mem_of_getElem? (i := 109) rfl) rfl
  | 1, _ => exact gw_at 2 (z := tables_1_2) rfl (List.mem_of_getElem? (i := 111) rfl) rfl
  | 2, _ => exact gw_at 2 (z := tables_1_2) rfl (List.mem_of_getElem? (i := 113) rfl) rfl
  | 3, _ => exact gw_at 2 (z := tables_1_2) rfl (List.mem_of_getElem? (i := 115) rfl) rfl
  | k + 4, h => exact absurd h (by omega)
theorem inX7 : ∀ w ∈ wsX70, w ∈ lw_tbl := fun w h => gwL_in w (gx_7 w h)
theorem gx_5 : ∀ w ∈ wsX50, w ∈ gwL := by
  intro w hw
  obtain ⟨k, hk, rfl⟩ := List.mem_map.mp hw
  have hk := List.mem_range.mp hk
  match k, hk with
  | 0, _ => exact gw_at 1 (z := tables_1_1) rfl (List.mem_of_getElem? (i := 49) rfl) rfl
  | 1, _ => exact gw_at 1 (z := tables_1_1) rfl (List.mem_of_getElem? (i := 51) rfl) rfl
  | 2, _ => exact gw_at 1 (z := tables_1_1) rfl (List.mem_of_getElem? (i := 53) rfl) rfl
  | 3, _ => exact gw_at 1 (z := tables_1_1) rfl (List.mem_of_getElem? (i := 55) rfl) rfl
  | 4, _ => exact gw_at 1 (z := tables_1_1) rfl (List.mem_of_getElem? (i := 57) rfl) rfl
  | 5, _ => exact gw_at 1 (z := tables_1_1) rfl (List.mem_of_getElem? (i := 59) rfl) rfl
  | 6, _ => exact gw_at 1 (z := tables_1_1) rfl (List.mem_of_getElem? (i := 61) rfl) rfl
  | 7, _ => exact gw_at 1 (z := tables_1_1) rfl (List.mem_of_getElem? (i := 63) rfl) rfl
  | 8, _ => exact gw_at 1 (z := tables_1_1) rfl (List.mem_of_getElem? (i := 65) rfl) rfl
  | 9, _ => exact gw_at 1 (z := tables_1_1) rfl (List.mem_of_getElem? (i := 67) rfl) rfl
  | k + 10, h => exact absurd h (by omega)
theorem inX5 : ∀ w ∈ wsX50, w ∈ lw_tbl := fun w h => gwL_in w (gx_5 w h)
/-! every method's words: its code, and all that the law's word list has -/
theorem gw_in {Ts : List Cond} {cz : Cond} (hT : ∀ w ∈ gwL, w ∈ Ts) (hc : cz ∈ gwL) : GoodIn Ts (cz :: gwL) := by
  intro w hw
  rcases List.mem_cons.mp hw with rfl | hw
  · exact ⟨hT _ hc, good_of_word (gw_good _ hc)⟩
  · exact ⟨hT _ hw, good_of_word (gw_good _ hw)⟩
theorem gw_V {Ts : List Cond} {own C : String} {idx : Nat} {y : MethodName} {cz : Cond} (hT : ∀ w ∈ gwL, w ∈ Ts) (h1 : Cond.methodLink own idx y ∈ gwL) (h2 : Cond.instanceMethod y ∈ gwL) (h3 : Cond.selects C y y ∈ gwL) (h4 : Cond.initialized C ∈ gwL) (hc : cz ∈ gwL) : GoodIn Ts (wsV own idx C y (cz :: gwL)) := by
  intro w hw
  unfold wsV at hw
  rcases List.mem_append.mp hw with hw | hw
  · simp only [List.mem_cons, List.not_mem_nil, or_false] at hw
    rcases hw with rfl | rfl | rfl | rfl
    · exact ⟨hT _ h1, good_of_word (gw_good _ h1)⟩
    · exact ⟨hT _ h2, good_of_word (gw_good _ h2)⟩
    · exact ⟨hT _ h3, good_of_word (gw_good _ h3)⟩
    · exact ⟨hT _ h4, good_of_word (gw_good _ h4)⟩
  · exact gw_in hT hc w hw
theorem gw_S {Ts : List Cond} {own : String} {idx : Nat} {y : MethodName} {cz : Cond} (hT : ∀ w ∈ gwL, w ∈ Ts) (h1 : Cond.methodLink own idx y ∈ gwL) (h2 : Cond.static y ∈ gwL) (h3 : Cond.initialized y.cls ∈ gwL) (hc : cz ∈ gwL) : GoodIn Ts (va_wsS own idx y (cz :: gwL)) := by
  intro w hw
  unfold va_wsS at hw
  rcases List.mem_append.mp hw with hw | hw
  · simp only [List.mem_cons, List.not_mem_nil, or_false] at hw
    rcases hw with rfl | rfl | rfl
    · exact ⟨hT _ h1, good_of_word (gw_good _ h1)⟩
    · exact ⟨hT _ h2, good_of_word (gw_good _ h2)⟩
    · exact ⟨hT _ h3, good_of_word (gw_good _ h3)⟩
  · exact gw_in hT hc w hw

theorem mw_0 : (.fieldLink RX11 314 "SetAgain" "MOST" "[I" : Cond) ∈ gwL := gw_at 2 (z := tables_1_2) rfl (List.mem_of_getElem? (i := 160) rfl) rfl
theorem mw_1 : (.fieldLink RX11 317 "SetAgain" "LEAST" "[I" : Cond) ∈ gwL := gw_at 2 (z := tables_1_2) rfl (List.mem_of_getElem? (i := 162) rfl) rfl
theorem mw_2 : (.fieldLink RX0 28 "SetAgain$Chair" "sitters" "I" : Cond) ∈ gwL := gw_at 1 (z := tables_1_1) rfl (List.mem_of_getElem? (i := 81) rfl) rfl
theorem mw_3 : (.fieldLink RX11 80 "SetAgain" "shelves" "[LSetAgain$Shelf;" : Cond) ∈ gwL := gw_at 2 (z := tables_1_2) rfl (List.mem_of_getElem? (i := 128) rfl) rfl
theorem mw_4 : (.fieldLink RX11 100 "SetAgain$Shelf" "sort" "I" : Cond) ∈ gwL := gw_at 2 (z := tables_1_2) rfl (List.mem_of_getElem? (i := 102) rfl) rfl
theorem mw_5 : (.code yX11_refusalOf cX11_refusalOf 2 (some .int) : Cond) ∈ gwL := gw_at 3 (z := tables_1_3) rfl (List.mem_of_getElem? (i := 110) rfl) rfl
theorem mw_6 : (.methodLink RX11 209 yX11_refusalOf : Cond) ∈ gwL := gw_at 3 (z := tables_1_3) rfl (List.mem_of_getElem? (i := 107) rfl) rfl
theorem mw_7 : (.instanceMethod yX11_refusalOf : Cond) ∈ gwL := gw_at 3 (z := tables_1_3) rfl (List.mem_of_getElem? (i := 109) rfl) rfl
theorem mw_8 : (.selects RX11 yX11_refusalOf yX11_refusalOf : Cond) ∈ gwL := gw_at 0 (z := (k2_sels lw_privs)) rfl (List.mem_of_getElem? (i := 18) rfl) rfl
theorem mw_9 : (.initialized RX11 : Cond) ∈ gwL := gw_at 1 (z := tables_1_1) rfl (List.mem_of_getElem? (i := 1) rfl) rfl
theorem mw_10 : (.fieldLink RX11 12 "SetAgain" "chair" "LSetAgain$Chair;" : Cond) ∈ gwL := gw_at 2 (z := tables_1_2) rfl (List.mem_of_getElem? (i := 119) rfl) rfl
theorem mw_11 : (.code yX0_has cX0_has 2 (some .boolean) : Cond) ∈ gwL := gw_at 3 (z := tables_1_3) rfl (List.mem_of_getElem? (i := 67) rfl) rfl
theorem mw_12 : (.methodLink RX11 146 yX0_has : Cond) ∈ gwL := gw_at 3 (z := tables_1_3) rfl (List.mem_of_getElem? (i := 64) rfl) rfl
theorem mw_13 : (.instanceMethod yX0_has : Cond) ∈ gwL := gw_at 3 (z := tables_1_3) rfl (List.mem_of_getElem? (i := 65) rfl) rfl
theorem mw_14 : (.selects RX0 yX0_has yX0_has : Cond) ∈ gwL := gw_at 3 (z := tables_1_3) rfl (List.mem_of_getElem? (i := 66) rfl) rfl
theorem mw_15 : (.initialized RX0 : Cond) ∈ gwL := gw_at 1 (z := tables_1_1) rfl (List.mem_of_getElem? (i := 2) rfl) rfl
theorem mw_16 : (.code yX11_isShelf cX11_isShelf 1 (some .boolean) : Cond) ∈ gwL := gw_at 2 (z := tables_1_2) rfl (List.mem_of_getElem? (i := 178) rfl) rfl
theorem mw_17 : (.methodLink RX11 97 yX11_isShelf : Cond) ∈ gwL := gw_at 2 (z := tables_1_2) rfl (List.mem_of_getElem? (i := 176) rfl) rfl
theorem mw_18 : (.static yX11_isShelf : Cond) ∈ gwL := gw_at 2 (z := tables_1_2) rfl (List.mem_of_getElem? (i := 177) rfl) rfl
theorem mw_19 : (.code yX11_isPart cX11_isPart 1 (some .boolean) : Cond) ∈ gwL := gw_at 2 (z := tables_1_2) rfl (List.mem_of_getElem? (i := 220) rfl) rfl
theorem mw_20 : (.methodLink RX11 123 yX11_isPart : Cond) ∈ gwL := gw_at 2 (z := tables_1_2) rfl (List.mem_of_getElem? (i := 218) rfl) rfl
theorem mw_21 : (.static yX11_isPart : Cond) ∈ gwL := gw_at 2 (z := tables_1_2) rfl (List.mem_of_getElem? (i := 219) rfl) rfl
theorem mw_22 : (.code yX11_isSetting cX11_isSetting 1 (some .boolean) : Cond) ∈ gwL := gw_at 2 (z := tables_1_2) rfl (List.mem_of_getElem? (i := 156) rfl) rfl
theorem mw_23 : (.methodLink RX11 85 yX11_isSetting : Cond) ∈ gwL := gw_at 2 (z := tables_1_2) rfl (List.mem_of_getElem? (i := 154) rfl) rfl
theorem mw_24 : (.static yX11_isSetting : Cond) ∈ gwL := gw_at 2 (z := tables_1_2) rfl (List.mem_of_getElem? (i := 155) rfl) rfl
theorem mw_25 : (.code yX11_readWeek cX11_readWeek 3 (some .int) : Cond) ∈ gwL := gw_at 3 (z := tables_1_3) rfl (List.mem_of_getElem? (i := 106) rfl) rfl
theorem mw_26 : (.methodLink RX11 153 yX11_readWeek : Cond) ∈ gwL := gw_at 3 (z := tables_1_3) rfl (List.mem_of_getElem? (i := 103) rfl) rfl
theorem mw_27 : (.instanceMethod yX11_readWeek : Cond) ∈ gwL := gw_at 3 (z := tables_1_3) rfl (List.mem_of_getElem? (i := 105) rfl) rfl
theorem mw_28 : (.selects RX11 yX11_readWeek yX11_readWeek : Cond) ∈ gwL := gw_at 0 (z := (k2_sels lw_privs)) rfl (List.mem_of_getElem? (i := 17) rfl) rfl
theorem mw_29 : (.constant RX11 205 (-2000000000) : Cond) ∈ gwL := gw_at 4 (z := tables_1_4) rfl (List.mem_of_getElem? (i := 81) rfl) rfl
theorem mw_30 : (.fieldLink RX0 25 "SetAgain$Chair" "lost" "[I" : Cond) ∈ gwL := gw_at 1 (z := tables_1_1) rfl (List.mem_of_getElem? (i := 85) rfl) rfl
theorem mw_31 : (.fieldLink RX0 11 "SetAgain$Chair" "told" "[I" : Cond) ∈ gwL := gw_at 1 (z := tables_1_1) rfl (List.mem_of_getElem? (i := 71) rfl) rfl
theorem mw_32 : (.code yX0_forget cX0_forget 4 none : Cond) ∈ gwL := gw_at 2 (z := tables_1_2) rfl (List.mem_of_getElem? (i := 171) rfl) rfl
theorem mw_33 : (.methodLink RX0 32 yX0_forget : Cond) ∈ gwL := gw_at 2 (z := tables_1_2) rfl (List.mem_of_getElem? (i := 168) rfl) rfl
theorem mw_34 : (.instanceMethod yX0_forget : Cond) ∈ gwL := gw_at 2 (z := tables_1_2) rfl (List.mem_of_getElem? (i := 170) rfl) rfl
theorem mw_35 : (.selects RX0 yX0_forget yX0_forget : Cond) ∈ gwL := gw_at 0 (z := (k2_sels lw_privs)) rfl (List.mem_of_getElem? (i := 0) rfl) rfl
theorem mw_36 : (.code yX11_fits cX11_fits 2 (some .boolean) : Cond) ∈ gwL := gw_at 2 (z := tables_1_2) rfl (List.mem_of_getElem? (i := 159) rfl) rfl
theorem mw_37 : (.methodLink RX11 89 yX11_fits : Cond) ∈ gwL := gw_at 2 (z := tables_1_2) rfl (List.mem_of_getElem? (i := 157) rfl) rfl
theorem mw_38 : (.static yX11_fits : Cond) ∈ gwL := gw_at 2 (z := tables_1_2) rfl (List.mem_of_getElem? (i := 158) rfl) rfl
theorem mw_39 : (.code yX0_comes cX0_comes 6 (some .int) : Cond) ∈ gwL := gw_at 2 (z := tables_1_2) rfl (List.mem_of_getElem? (i := 167) rfl) rfl
theorem mw_40 : (.methodLink RX11 93 yX0_comes : Cond) ∈ gwL := gw_at 2 (z := tables_1_2) rfl (List.mem_of_getElem? (i := 164) rfl) rfl
theorem mw_41 : (.instanceMethod yX0_comes : Cond) ∈ gwL := gw_at 2 (z := tables_1_2) rfl (List.mem_of_getElem? (i := 165) rfl) rfl
theorem mw_42 : (.selects RX0 yX0_comes yX0_comes : Cond) ∈ gwL := gw_at 2 (z := tables_1_2) rfl (List.mem_of_getElem? (i := 166) rfl) rfl
theorem mw_43 : (.fieldLink RX1 19 "SetAgain$Changes" "done" "I" : Cond) ∈ gwL := gw_at 2 (z := tables_1_2) rfl (List.mem_of_getElem? (i := 47) rfl) rfl
theorem mw_44 : (.fieldLink RX1 9 "SetAgain$Changes" "places" "[I" : Cond) ∈ gwL := gw_at 2 (z := tables_1_2) rfl (List.mem_of_getElem? (i := 41) rfl) rfl
theorem mw_45 : (.fieldLink RX1 13 "SetAgain$Changes" "before" "[I" : Cond) ∈ gwL := gw_at 2 (z := tables_1_2) rfl (List.mem_of_getElem? (i := 43) rfl) rfl
theorem mw_46 : (.fieldLink RX1 16 "SetAgain$Changes" "after" "[I" : Cond) ∈ gwL := gw_at 2 (z := tables_1_2) rfl (List.mem_of_getElem? (i := 45) rfl) rfl
theorem mw_47 : (.fieldLink RX1 26 "SetAgain$Changes" "kept" "I" : Cond) ∈ gwL := gw_at 2 (z := tables_1_2) rfl (List.mem_of_getElem? (i := 49) rfl) rfl
theorem mw_48 : (.code yX0_placeOf cX0_placeOf 3 (some .int) : Cond) ∈ gwL := gw_at 2 (z := tables_1_2) rfl (List.mem_of_getElem? (i := 198) rfl) rfl
theorem mw_49 : (.methodLink RX11 108 yX0_placeOf : Cond) ∈ gwL := gw_at 2 (z := tables_1_2) rfl (List.mem_of_getElem? (i := 195) rfl) rfl
theorem mw_50 : (.instanceMethod yX0_placeOf : Cond) ∈ gwL := gw_at 2 (z := tables_1_2) rfl (List.mem_of_getElem? (i := 196) rfl) rfl
theorem mw_51 : (.selects RX0 yX0_placeOf yX0_placeOf : Cond) ∈ gwL := gw_at 2 (z := tables_1_2) rfl (List.mem_of_getElem? (i := 197) rfl) rfl
theorem mw_52 : (.fieldLink RX11 112 "SetAgain$Chair" "told" "[I" : Cond) ∈ gwL := gw_at 1 (z := tables_1_1) rfl (List.mem_of_getElem? (i := 72) rfl) rfl
theorem mw_53 : (.fieldLink RX11 67 "SetAgain" "changes" "LSetAgain$Changes;" : Cond) ∈ gwL := gw_at 2 (z := tables_1_2) rfl (List.mem_of_getElem? (i := 126) rfl) rfl
theorem mw_54 : (.code yX1_comes cX1_comes 4 none : Cond) ∈ gwL := gw_at 2 (z := tables_1_2) rfl (List.mem_of_getElem? (i := 202) rfl) rfl
theorem mw_55 : (.methodLink RX11 116 yX1_comes : Cond) ∈ gwL := gw_at 2 (z := tables_1_2) rfl (List.mem_of_getElem? (i := 199) rfl) rfl
theorem mw_56 : (.instanceMethod yX1_comes : Cond) ∈ gwL := gw_at 2 (z := tables_1_2) rfl (List.mem_of_getElem? (i := 200) rfl) rfl
theorem mw_57 : (.selects RX1 yX1_comes yX1_comes : Cond) ∈ gwL := gw_at 2 (z := tables_1_2) rfl (List.mem_of_getElem? (i := 201) rfl) rfl
theorem mw_58 : (.initialized RX1 : Cond) ∈ gwL := gw_at 1 (z := tables_1_1) rfl (List.mem_of_getElem? (i := 10) rfl) rfl
theorem mw_59 : (.code yX0_becomes cX0_becomes 3 none : Cond) ∈ gwL := gw_at 2 (z := tables_1_2) rfl (List.mem_of_getElem? (i := 213) rfl) rfl
theorem mw_60 : (.methodLink RX11 119 yX0_becomes : Cond) ∈ gwL := gw_at 2 (z := tables_1_2) rfl (List.mem_of_getElem? (i := 210) rfl) rfl
theorem mw_61 : (.instanceMethod yX0_becomes : Cond) ∈ gwL := gw_at 2 (z := tables_1_2) rfl (List.mem_of_getElem? (i := 211) rfl) rfl
theorem mw_62 : (.selects RX0 yX0_becomes yX0_becomes : Cond) ∈ gwL := gw_at 2 (z := tables_1_2) rfl (List.mem_of_getElem? (i := 212) rfl) rfl
theorem mw_63 : (.fieldLink RX11 126 "SetAgain$Chair" "stands" "[I" : Cond) ∈ gwL := gw_at 1 (z := tables_1_1) rfl (List.mem_of_getElem? (i := 78) rfl) rfl
theorem mw_64 : (.fieldLink RX5 24 "SetAgain$Law" "length" "I" : Cond) ∈ gwL := gw_at 1 (z := tables_1_1) rfl (List.mem_of_getElem? (i := 38) rfl) rfl
theorem mw_65 : (.fieldLink RX5 11 "SetAgain$Law" "tape" "[I" : Cond) ∈ gwL := gw_at 1 (z := tables_1_1) rfl (List.mem_of_getElem? (i := 37) rfl) rfl
theorem mw_66 : (.fieldLink RX11 129 "SetAgain$Chair" "law" "LSetAgain$Law;" : Cond) ∈ gwL := gw_at 1 (z := tables_1_1) rfl (List.mem_of_getElem? (i := 80) rfl) rfl
theorem mw_67 : (.code yX5_takes cX5_takes 2 (some .int) : Cond) ∈ gwL := gw_at 2 (z := tables_1_2) rfl (List.mem_of_getElem? (i := 228) rfl) rfl
theorem mw_68 : (.methodLink RX11 133 yX5_takes : Cond) ∈ gwL := gw_at 2 (z := tables_1_2) rfl (List.mem_of_getElem? (i := 225) rfl) rfl
theorem mw_69 : (.instanceMethod yX5_takes : Cond) ∈ gwL := gw_at 2 (z := tables_1_2) rfl (List.mem_of_getElem? (i := 226) rfl) rfl
theorem mw_70 : (.selects RX5 yX5_takes yX5_takes : Cond) ∈ gwL := gw_at 2 (z := tables_1_2) rfl (List.mem_of_getElem? (i := 227) rfl) rfl
theorem mw_71 : (.initialized RX5 : Cond) ∈ gwL := gw_at 1 (z := tables_1_1) rfl (List.mem_of_getElem? (i := 3) rfl) rfl
theorem mw_72 : (.fieldLink RX5 31 "SetAgain$Law" "fault" "I" : Cond) ∈ gwL := gw_at 1 (z := tables_1_1) rfl (List.mem_of_getElem? (i := 46) rfl) rfl
theorem mw_73 : (.fieldLink RX5 28 "SetAgain$Law" "at" "I" : Cond) ∈ gwL := gw_at 1 (z := tables_1_1) rfl (List.mem_of_getElem? (i := 45) rfl) rfl
theorem mw_74 : (.code yX5_next cX5_next 1 (some .int) : Cond) ∈ gwL := gw_at 3 (z := tables_1_3) rfl (List.mem_of_getElem? (i := 32) rfl) rfl
theorem mw_75 : (.methodLink RX5 56 yX5_next : Cond) ∈ gwL := gw_at 3 (z := tables_1_3) rfl (List.mem_of_getElem? (i := 29) rfl) rfl
theorem mw_76 : (.instanceMethod yX5_next : Cond) ∈ gwL := gw_at 3 (z := tables_1_3) rfl (List.mem_of_getElem? (i := 31) rfl) rfl
theorem mw_77 : (.selects RX5 yX5_next yX5_next : Cond) ∈ gwL := gw_at 0 (z := (k2_sels lw_privs)) rfl (List.mem_of_getElem? (i := 12) rfl) rfl
theorem mw_78 : (.code yX5_isDigit cX5_isDigit 1 (some .boolean) : Cond) ∈ gwL := gw_at 3 (z := tables_1_3) rfl (List.mem_of_getElem? (i := 35) rfl) rfl
theorem mw_79 : (.methodLink RX5 85 yX5_isDigit : Cond) ∈ gwL := gw_at 3 (z := tables_1_3) rfl (List.mem_of_getElem? (i := 33) rfl) rfl
theorem mw_80 : (.static yX5_isDigit : Cond) ∈ gwL := gw_at 3 (z := tables_1_3) rfl (List.mem_of_getElem? (i := 34) rfl) rfl
theorem mw_81 : (.code yX5_isName cX5_isName 1 (some .boolean) : Cond) ∈ gwL := gw_at 3 (z := tables_1_3) rfl (List.mem_of_getElem? (i := 46) rfl) rfl
theorem mw_82 : (.methodLink RX5 92 yX5_isName : Cond) ∈ gwL := gw_at 3 (z := tables_1_3) rfl (List.mem_of_getElem? (i := 44) rfl) rfl
theorem mw_83 : (.static yX5_isName : Cond) ∈ gwL := gw_at 3 (z := tables_1_3) rfl (List.mem_of_getElem? (i := 45) rfl) rfl
theorem mw_84 : (.code yX5_fail cX5_fail 1 none : Cond) ∈ gwL := gw_at 3 (z := tables_1_3) rfl (List.mem_of_getElem? (i := 50) rfl) rfl
theorem mw_85 : (.methodLink RX5 60 yX5_fail : Cond) ∈ gwL := gw_at 3 (z := tables_1_3) rfl (List.mem_of_getElem? (i := 47) rfl) rfl
theorem mw_86 : (.instanceMethod yX5_fail : Cond) ∈ gwL := gw_at 3 (z := tables_1_3) rfl (List.mem_of_getElem? (i := 49) rfl) rfl
theorem mw_87 : (.selects RX5 yX5_fail yX5_fail : Cond) ∈ gwL := gw_at 0 (z := (k2_sels lw_privs)) rfl (List.mem_of_getElem? (i := 15) rfl) rfl
theorem mw_88 : (.code yX5_operand cX5_operand 3 none : Cond) ∈ gwL := gw_at 3 (z := tables_1_3) rfl (List.mem_of_getElem? (i := 28) rfl) rfl
theorem mw_89 : (.methodLink RX5 82 yX5_operand : Cond) ∈ gwL := gw_at 3 (z := tables_1_3) rfl (List.mem_of_getElem? (i := 25) rfl) rfl
theorem mw_90 : (.instanceMethod yX5_operand : Cond) ∈ gwL := gw_at 3 (z := tables_1_3) rfl (List.mem_of_getElem? (i := 27) rfl) rfl
theorem mw_91 : (.selects RX5 yX5_operand yX5_operand : Cond) ∈ gwL := gw_at 0 (z := (k2_sels lw_privs)) rfl (List.mem_of_getElem? (i := 11) rfl) rfl
theorem mw_92 : (.code yX5_product cX5_product 4 none : Cond) ∈ gwL := gw_at 3 (z := tables_1_3) rfl (List.mem_of_getElem? (i := 24) rfl) rfl
theorem mw_93 : (.methodLink RX5 79 yX5_product : Cond) ∈ gwL := gw_at 3 (z := tables_1_3) rfl (List.mem_of_getElem? (i := 21) rfl) rfl
theorem mw_94 : (.instanceMethod yX5_product : Cond) ∈ gwL := gw_at 3 (z := tables_1_3) rfl (List.mem_of_getElem? (i := 23) rfl) rfl
theorem mw_95 : (.selects RX5 yX5_product yX5_product : Cond) ∈ gwL := gw_at 0 (z := (k2_sels lw_privs)) rfl (List.mem_of_getElem? (i := 10) rfl) rfl
theorem mw_96 : (.code yX5_sum cX5_sum 4 none : Cond) ∈ gwL := gw_at 3 (z := tables_1_3) rfl (List.mem_of_getElem? (i := 20) rfl) rfl
theorem mw_97 : (.methodLink RX5 76 yX5_sum : Cond) ∈ gwL := gw_at 3 (z := tables_1_3) rfl (List.mem_of_getElem? (i := 17) rfl) rfl
theorem mw_98 : (.instanceMethod yX5_sum : Cond) ∈ gwL := gw_at 3 (z := tables_1_3) rfl (List.mem_of_getElem? (i := 19) rfl) rfl
theorem mw_99 : (.selects RX5 yX5_sum yX5_sum : Cond) ∈ gwL := gw_at 0 (z := (k2_sels lw_privs)) rfl (List.mem_of_getElem? (i := 9) rfl) rfl
theorem mw_100 : (.code yX5_compared cX5_compared 3 none : Cond) ∈ gwL := gw_at 3 (z := tables_1_3) rfl (List.mem_of_getElem? (i := 16) rfl) rfl
theorem mw_101 : (.methodLink RX5 73 yX5_compared : Cond) ∈ gwL := gw_at 3 (z := tables_1_3) rfl (List.mem_of_getElem? (i := 13) rfl) rfl
theorem mw_102 : (.instanceMethod yX5_compared : Cond) ∈ gwL := gw_at 3 (z := tables_1_3) rfl (List.mem_of_getElem? (i := 15) rfl) rfl
theorem mw_103 : (.selects RX5 yX5_compared yX5_compared : Cond) ∈ gwL := gw_at 0 (z := (k2_sels lw_privs)) rfl (List.mem_of_getElem? (i := 8) rfl) rfl
theorem mw_104 : (.code yX5_both cX5_both 3 none : Cond) ∈ gwL := gw_at 3 (z := tables_1_3) rfl (List.mem_of_getElem? (i := 12) rfl) rfl
theorem mw_105 : (.methodLink RX5 70 yX5_both : Cond) ∈ gwL := gw_at 3 (z := tables_1_3) rfl (List.mem_of_getElem? (i := 9) rfl) rfl
theorem mw_106 : (.instanceMethod yX5_both : Cond) ∈ gwL := gw_at 3 (z := tables_1_3) rfl (List.mem_of_getElem? (i := 11) rfl) rfl
theorem mw_107 : (.selects RX5 yX5_both yX5_both : Cond) ∈ gwL := gw_at 0 (z := (k2_sels lw_privs)) rfl (List.mem_of_getElem? (i := 7) rfl) rfl
theorem mw_108 : (.fieldLink RX5 34 "SetAgain$Law" "drafted" "I" : Cond) ∈ gwL := gw_at 1 (z := tables_1_1) rfl (List.mem_of_getElem? (i := 47) rfl) rfl
theorem mw_109 : (.fieldLink RX5 15 "SetAgain$Law" "draft" "[I" : Cond) ∈ gwL := gw_at 1 (z := tables_1_1) rfl (List.mem_of_getElem? (i := 42) rfl) rfl
theorem mw_110 : (.code yX5_either cX5_either 3 none : Cond) ∈ gwL := gw_at 3 (z := tables_1_3) rfl (List.mem_of_getElem? (i := 8) rfl) rfl
theorem mw_111 : (.methodLink RX5 63 yX5_either : Cond) ∈ gwL := gw_at 3 (z := tables_1_3) rfl (List.mem_of_getElem? (i := 5) rfl) rfl
theorem mw_112 : (.instanceMethod yX5_either : Cond) ∈ gwL := gw_at 3 (z := tables_1_3) rfl (List.mem_of_getElem? (i := 7) rfl) rfl
theorem mw_113 : (.selects RX5 yX5_either yX5_either : Cond) ∈ gwL := gw_at 0 (z := (k2_sels lw_privs)) rfl (List.mem_of_getElem? (i := 6) rfl) rfl
theorem mw_114 : (.code yX5_write cX5_write 2 none : Cond) ∈ gwL := gw_at 3 (z := tables_1_3) rfl (List.mem_of_getElem? (i := 43) rfl) rfl
theorem mw_115 : (.methodLink RX5 67 yX5_write : Cond) ∈ gwL := gw_at 3 (z := tables_1_3) rfl (List.mem_of_getElem? (i := 40) rfl) rfl
theorem mw_116 : (.instanceMethod yX5_write : Cond) ∈ gwL := gw_at 3 (z := tables_1_3) rfl (List.mem_of_getElem? (i := 42) rfl) rfl
theorem mw_117 : (.selects RX5 yX5_write yX5_write : Cond) ∈ gwL := gw_at 0 (z := (k2_sels lw_privs)) rfl (List.mem_of_getElem? (i := 14) rfl) rfl
theorem mw_118 : (.code yX5_line cX5_line 1 none : Cond) ∈ gwL := gw_at 3 (z := tables_1_3) rfl (List.mem_of_getElem? (i := 4) rfl) rfl
theorem mw_119 : (.methodLink RX5 53 yX5_line : Cond) ∈ gwL := gw_at 3 (z := tables_1_3) rfl (List.mem_of_getElem? (i := 1) rfl) rfl
theorem mw_120 : (.instanceMethod yX5_line : Cond) ∈ gwL := gw_at 3 (z := tables_1_3) rfl (List.mem_of_getElem? (i := 3) rfl) rfl
theorem mw_121 : (.selects RX5 yX5_line yX5_line : Cond) ∈ gwL := gw_at 0 (z := (k2_sels lw_privs)) rfl (List.mem_of_getElem? (i := 5) rfl) rfl
theorem mw_122 : (.code yX5_lines cX5_lines 2 none : Cond) ∈ gwL := gw_at 3 (z := tables_1_3) rfl (List.mem_of_getElem? (i := 0) rfl) rfl
theorem mw_123 : (.methodLink RX5 37 yX5_lines : Cond) ∈ gwL := gw_at 2 (z := tables_1_2) rfl (List.mem_of_getElem? (i := 237) rfl) rfl
theorem mw_124 : (.instanceMethod yX5_lines : Cond) ∈ gwL := gw_at 2 (z := tables_1_2) rfl (List.mem_of_getElem? (i := 239) rfl) rfl
theorem mw_125 : (.selects RX5 yX5_lines yX5_lines : Cond) ∈ gwL := gw_at 0 (z := (k2_sels lw_privs)) rfl (List.mem_of_getElem? (i := 4) rfl) rfl
theorem mw_126 : (.code yX5_isRead cX5_isRead 1 (some .int) : Cond) ∈ gwL := gw_at 2 (z := tables_1_2) rfl (List.mem_of_getElem? (i := 236) rfl) rfl
theorem mw_127 : (.methodLink RX11 139 yX5_isRead : Cond) ∈ gwL := gw_at 2 (z := tables_1_2) rfl (List.mem_of_getElem? (i := 233) rfl) rfl
theorem mw_128 : (.instanceMethod yX5_isRead : Cond) ∈ gwL := gw_at 2 (z := tables_1_2) rfl (List.mem_of_getElem? (i := 234) rfl) rfl
theorem mw_129 : (.selects RX5 yX5_isRead yX5_isRead : Cond) ∈ gwL := gw_at 2 (z := tables_1_2) rfl (List.mem_of_getElem? (i := 235) rfl) rfl
theorem mw_130 : (.fieldLink RX2 21 "SetAgain$Deed" "chair" "LSetAgain$Chair;" : Cond) ∈ gwL := gw_at 2 (z := tables_1_2) rfl (List.mem_of_getElem? (i := 15) rfl) rfl
theorem mw_131 : (.fieldLink RX2 41 "SetAgain$Chair" "stands" "[I" : Cond) ∈ gwL := gw_at 1 (z := tables_1_1) rfl (List.mem_of_getElem? (i := 75) rfl) rfl
theorem mw_132 : (.methodLink RX2 63 Lib.Math.abs.name : Cond) ∈ gwL := gw_at 4 (z := tables_1_4) rfl (List.mem_of_getElem? (i := 166) rfl) rfl
theorem mw_133 : (.static Lib.Math.abs.name : Cond) ∈ gwL := gw_at 3 (z := tables_1_3) rfl (List.mem_of_getElem? (i := 87) rfl) rfl
theorem mw_134 : (.initialized "java/lang/Math" : Cond) ∈ gwL := gw_at 1 (z := tables_1_1) rfl (List.mem_of_getElem? (i := 15) rfl) rfl
theorem mw_135 : (.code Lib.Math.abs.name Lib.Math.abs.code 1 (some .int) : Cond) ∈ gwL := gw_at 3 (z := tables_1_3) rfl (List.mem_of_getElem? (i := 88) rfl) rfl
theorem mw_136 : (.fieldLink RX2 11 "SetAgain$Deed" "told" "[I" : Cond) ∈ gwL := gw_at 2 (z := tables_1_2) rfl (List.mem_of_getElem? (i := 17) rfl) rfl
theorem mw_137 : (.fieldLink RX11 60 "SetAgain" "deed" "LSetAgain$Deed;" : Cond) ∈ gwL := gw_at 2 (z := tables_1_2) rfl (List.mem_of_getElem? (i := 125) rfl) rfl
theorem mw_138 : (.code yX2_turns cX2_turns 4 (some .int) : Cond) ∈ gwL := gw_at 4 (z := tables_1_4) rfl (List.mem_of_getElem? (i := 165) rfl) rfl
theorem mw_139 : (.methodLink RX11 225 yX2_turns : Cond) ∈ gwL := gw_at 4 (z := tables_1_4) rfl (List.mem_of_getElem? (i := 162) rfl) rfl
theorem mw_140 : (.instanceMethod yX2_turns : Cond) ∈ gwL := gw_at 4 (z := tables_1_4) rfl (List.mem_of_getElem? (i := 163) rfl) rfl
theorem mw_141 : (.selects RX2 yX2_turns yX2_turns : Cond) ∈ gwL := gw_at 4 (z := tables_1_4) rfl (List.mem_of_getElem? (i := 164) rfl) rfl
theorem mw_142 : (.initialized RX2 : Cond) ∈ gwL := gw_at 1 (z := tables_1_1) rfl (List.mem_of_getElem? (i := 9) rfl) rfl
theorem mw_143 : (.methodLink RX0 36 Lib.Math.max.name : Cond) ∈ gwL := gw_at 3 (z := tables_1_3) rfl (List.mem_of_getElem? (i := 96) rfl) rfl
theorem mw_144 : (.static Lib.Math.max.name : Cond) ∈ gwL := gw_at 3 (z := tables_1_3) rfl (List.mem_of_getElem? (i := 97) rfl) rfl
theorem mw_145 : (.code Lib.Math.max.name Lib.Math.max.code 2 (some .int) : Cond) ∈ gwL := gw_at 3 (z := tables_1_3) rfl (List.mem_of_getElem? (i := 98) rfl) rfl
theorem mw_146 : (.code yX0_slipped cX0_slipped 3 (some .int) : Cond) ∈ gwL := gw_at 3 (z := tables_1_3) rfl (List.mem_of_getElem? (i := 168) rfl) rfl
theorem mw_147 : (.methodLink RX2 69 yX0_slipped : Cond) ∈ gwL := gw_at 4 (z := tables_1_4) rfl (List.mem_of_getElem? (i := 175) rfl) rfl
theorem mw_148 : (.instanceMethod yX0_slipped : Cond) ∈ gwL := gw_at 3 (z := tables_1_3) rfl (List.mem_of_getElem? (i := 166) rfl) rfl
theorem mw_149 : (.selects RX0 yX0_slipped yX0_slipped : Cond) ∈ gwL := gw_at 3 (z := tables_1_3) rfl (List.mem_of_getElem? (i := 167) rfl) rfl
theorem mw_150 : (.code yX2_allSlip cX2_allSlip 4 (some .int) : Cond) ∈ gwL := gw_at 4 (z := tables_1_4) rfl (List.mem_of_getElem? (i := 174) rfl) rfl
theorem mw_151 : (.methodLink RX11 228 yX2_allSlip : Cond) ∈ gwL := gw_at 4 (z := tables_1_4) rfl (List.mem_of_getElem? (i := 171) rfl) rfl
theorem mw_152 : (.instanceMethod yX2_allSlip : Cond) ∈ gwL := gw_at 4 (z := tables_1_4) rfl (List.mem_of_getElem? (i := 172) rfl) rfl
theorem mw_153 : (.selects RX2 yX2_allSlip yX2_allSlip : Cond) ∈ gwL := gw_at 4 (z := tables_1_4) rfl (List.mem_of_getElem? (i := 173) rfl) rfl
theorem mw_154 : (.fieldLink RX11 231 "SetAgain$Deed" "told" "[I" : Cond) ∈ gwL := gw_at 2 (z := tables_1_2) rfl (List.mem_of_getElem? (i := 18) rfl) rfl
theorem mw_155 : (.fieldLink RX2 15 "SetAgain$Deed" "keptTold" "[I" : Cond) ∈ gwL := gw_at 2 (z := tables_1_2) rfl (List.mem_of_getElem? (i := 19) rfl) rfl
theorem mw_156 : (.methodLink RX2 46 arraycopyName : Cond) ∈ gwL := gw_at 4 (z := tables_1_4) rfl (List.mem_of_getElem? (i := 156) rfl) rfl
theorem mw_157 : (.native arraycopyName : Cond) ∈ gwL := gw_at 2 (z := tables_1_2) rfl (List.mem_of_getElem? (i := 209) rfl) rfl
theorem mw_158 : (.static arraycopyName : Cond) ∈ gwL := gw_at 2 (z := tables_1_2) rfl (List.mem_of_getElem? (i := 208) rfl) rfl
theorem mw_159 : (.initialized "java/lang/System" : Cond) ∈ gwL := gw_at 1 (z := tables_1_1) rfl (List.mem_of_getElem? (i := 14) rfl) rfl
theorem mw_160 : (.fieldLink RX2 18 "SetAgain$Deed" "keptStands" "[I" : Cond) ∈ gwL := gw_at 2 (z := tables_1_2) rfl (List.mem_of_getElem? (i := 20) rfl) rfl
theorem mw_161 : (.fieldLink RX2 73 "SetAgain$Deed" "kept" "Z" : Cond) ∈ gwL := gw_at 2 (z := tables_1_2) rfl (List.mem_of_getElem? (i := 21) rfl) rfl
theorem mw_162 : (.code yX2_keepImage cX2_keepImage 1 (some .int) : Cond) ∈ gwL := gw_at 4 (z := tables_1_4) rfl (List.mem_of_getElem? (i := 187) rfl) rfl
theorem mw_163 : (.methodLink RX11 232 yX2_keepImage : Cond) ∈ gwL := gw_at 4 (z := tables_1_4) rfl (List.mem_of_getElem? (i := 184) rfl) rfl
theorem mw_164 : (.instanceMethod yX2_keepImage : Cond) ∈ gwL := gw_at 4 (z := tables_1_4) rfl (List.mem_of_getElem? (i := 185) rfl) rfl
theorem mw_165 : (.selects RX2 yX2_keepImage yX2_keepImage : Cond) ∈ gwL := gw_at 4 (z := tables_1_4) rfl (List.mem_of_getElem? (i := 186) rfl) rfl
theorem mw_166 : (.code yX2_layBack cX2_layBack 1 (some .int) : Cond) ∈ gwL := gw_at 4 (z := tables_1_4) rfl (List.mem_of_getElem? (i := 195) rfl) rfl
theorem mw_167 : (.methodLink RX11 235 yX2_layBack : Cond) ∈ gwL := gw_at 4 (z := tables_1_4) rfl (List.mem_of_getElem? (i := 192) rfl) rfl
theorem mw_168 : (.instanceMethod yX2_layBack : Cond) ∈ gwL := gw_at 4 (z := tables_1_4) rfl (List.mem_of_getElem? (i := 193) rfl) rfl
theorem mw_169 : (.selects RX2 yX2_layBack yX2_layBack : Cond) ∈ gwL := gw_at 4 (z := tables_1_4) rfl (List.mem_of_getElem? (i := 194) rfl) rfl
theorem mw_170 : (.fieldLink RX11 238 "SetAgain$Changes" "done" "I" : Cond) ∈ gwL := gw_at 2 (z := tables_1_2) rfl (List.mem_of_getElem? (i := 48) rfl) rfl
theorem mw_171 : (.fieldLink RX11 247 "SetAgain$Changes" "kept" "I" : Cond) ∈ gwL := gw_at 2 (z := tables_1_2) rfl (List.mem_of_getElem? (i := 50) rfl) rfl
theorem mw_172 : (.fieldLink RX3 18 "SetAgain$Desks" "kept" "I" : Cond) ∈ gwL := gw_at 2 (z := tables_1_2) rfl (List.mem_of_getElem? (i := 71) rfl) rfl
theorem mw_173 : (.fieldLink RX3 9 "SetAgain$Desks" "kinds" "[I" : Cond) ∈ gwL := gw_at 2 (z := tables_1_2) rfl (List.mem_of_getElem? (i := 68) rfl) rfl
theorem mw_174 : (.code yX11_isKind cX11_isKind 1 (some .boolean) : Cond) ∈ gwL := gw_at 4 (z := tables_1_4) rfl (List.mem_of_getElem? (i := 210) rfl) rfl
theorem mw_175 : (.methodLink RX11 253 yX11_isKind : Cond) ∈ gwL := gw_at 4 (z := tables_1_4) rfl (List.mem_of_getElem? (i := 208) rfl) rfl
theorem mw_176 : (.static yX11_isKind : Cond) ∈ gwL := gw_at 4 (z := tables_1_4) rfl (List.mem_of_getElem? (i := 209) rfl) rfl
theorem mw_177 : (.fieldLink RX11 74 "SetAgain" "desks" "LSetAgain$Desks;" : Cond) ∈ gwL := gw_at 2 (z := tables_1_2) rfl (List.mem_of_getElem? (i := 127) rfl) rfl
theorem mw_178 : (.code yX3_comes cX3_comes 2 (some .int) : Cond) ∈ gwL := gw_at 4 (z := tables_1_4) rfl (List.mem_of_getElem? (i := 214) rfl) rfl
theorem mw_179 : (.methodLink RX11 256 yX3_comes : Cond) ∈ gwL := gw_at 4 (z := tables_1_4) rfl (List.mem_of_getElem? (i := 211) rfl) rfl
theorem mw_180 : (.instanceMethod yX3_comes : Cond) ∈ gwL := gw_at 4 (z := tables_1_4) rfl (List.mem_of_getElem? (i := 212) rfl) rfl
theorem mw_181 : (.selects RX3 yX3_comes yX3_comes : Cond) ∈ gwL := gw_at 4 (z := tables_1_4) rfl (List.mem_of_getElem? (i := 213) rfl) rfl
theorem mw_182 : (.initialized RX3 : Cond) ∈ gwL := gw_at 1 (z := tables_1_1) rfl (List.mem_of_getElem? (i := 11) rfl) rfl
theorem mw_183 : (.fieldLink RX3 25 "SetAgain$Desks" "ran" "I" : Cond) ∈ gwL := gw_at 2 (z := tables_1_2) rfl (List.mem_of_getElem? (i := 73) rfl) rfl
theorem mw_184 : (.code yX3_acts cX3_acts 4 (some .int) : Cond) ∈ gwL := gw_at 4 (z := tables_1_4) rfl (List.mem_of_getElem? (i := 222) rfl) rfl
theorem mw_185 : (.methodLink RX11 257 yX3_acts : Cond) ∈ gwL := gw_at 4 (z := tables_1_4) rfl (List.mem_of_getElem? (i := 219) rfl) rfl
theorem mw_186 : (.instanceMethod yX3_acts : Cond) ∈ gwL := gw_at 4 (z := tables_1_4) rfl (List.mem_of_getElem? (i := 220) rfl) rfl
theorem mw_187 : (.selects RX3 yX3_acts yX3_acts : Cond) ∈ gwL := gw_at 4 (z := tables_1_4) rfl (List.mem_of_getElem? (i := 221) rfl) rfl
theorem mw_188 : (.fieldLink RX11 260 "SetAgain$Desks" "ran" "I" : Cond) ∈ gwL := gw_at 2 (z := tables_1_2) rfl (List.mem_of_getElem? (i := 74) rfl) rfl
theorem mw_189 : (.methodLink RX11 263 Lib.Math.min.name : Cond) ∈ gwL := gw_at 4 (z := tables_1_4) rfl (List.mem_of_getElem? (i := 133) rfl) rfl
theorem mw_190 : (.static Lib.Math.min.name : Cond) ∈ gwL := gw_at 3 (z := tables_1_3) rfl (List.mem_of_getElem? (i := 94) rfl) rfl
theorem mw_191 : (.code Lib.Math.min.name Lib.Math.min.code 2 (some .int) : Cond) ∈ gwL := gw_at 3 (z := tables_1_3) rfl (List.mem_of_getElem? (i := 95) rfl) rfl
theorem mw_192 : (.fieldLink RX7 15 "SetAgain$Shelf" "sort" "I" : Cond) ∈ gwL := gw_at 2 (z := tables_1_2) rfl (List.mem_of_getElem? (i := 101) rfl) rfl
theorem mw_193 : (.fieldLink RX7 19 "SetAgain$Shelf" "desk" "I" : Cond) ∈ gwL := gw_at 2 (z := tables_1_2) rfl (List.mem_of_getElem? (i := 107) rfl) rfl
theorem mw_194 : (.fieldLink RX11 271 "SetAgain$Desks" "kept" "I" : Cond) ∈ gwL := gw_at 2 (z := tables_1_2) rfl (List.mem_of_getElem? (i := 72) rfl) rfl
theorem mw_195 : (.code yX7_takesDesk cX7_takesDesk 2 none : Cond) ∈ gwL := gw_at 5 (z := tables_1_5) rfl (List.mem_of_getElem? (i := 9) rfl) rfl
theorem mw_196 : (.methodLink RX11 272 yX7_takesDesk : Cond) ∈ gwL := gw_at 5 (z := tables_1_5) rfl (List.mem_of_getElem? (i := 6) rfl) rfl
theorem mw_197 : (.instanceMethod yX7_takesDesk : Cond) ∈ gwL := gw_at 5 (z := tables_1_5) rfl (List.mem_of_getElem? (i := 7) rfl) rfl
theorem mw_198 : (.selects RX7 yX7_takesDesk yX7_takesDesk : Cond) ∈ gwL := gw_at 5 (z := tables_1_5) rfl (List.mem_of_getElem? (i := 8) rfl) rfl
theorem mw_199 : (.initialized RX7 : Cond) ∈ gwL := gw_at 1 (z := tables_1_1) rfl (List.mem_of_getElem? (i := 12) rfl) rfl
theorem mw_200 : (.fieldLink RX7 22 "SetAgain$Shelf" "length" "I" : Cond) ∈ gwL := gw_at 2 (z := tables_1_2) rfl (List.mem_of_getElem? (i := 104) rfl) rfl
theorem mw_201 : (.fieldLink RX7 9 "SetAgain$Shelf" "elements" "[J" : Cond) ∈ gwL := gw_at 2 (z := tables_1_2) rfl (List.mem_of_getElem? (i := 97) rfl) rfl
theorem mw_202 : (.code yX7_takesRow cX7_takesRow 4 none : Cond) ∈ gwL := gw_at 5 (z := tables_1_5) rfl (List.mem_of_getElem? (i := 17) rfl) rfl
theorem mw_203 : (.methodLink RX11 275 yX7_takesRow : Cond) ∈ gwL := gw_at 5 (z := tables_1_5) rfl (List.mem_of_getElem? (i := 14) rfl) rfl
theorem mw_204 : (.instanceMethod yX7_takesRow : Cond) ∈ gwL := gw_at 5 (z := tables_1_5) rfl (List.mem_of_getElem? (i := 15) rfl) rfl
theorem mw_205 : (.selects RX7 yX7_takesRow yX7_takesRow : Cond) ∈ gwL := gw_at 5 (z := tables_1_5) rfl (List.mem_of_getElem? (i := 16) rfl) rfl
theorem mw_206 : (.code yX11_refusalAt cX11_refusalAt 4 (some .int) : Cond) ∈ gwL := gw_at 5 (z := tables_1_5) rfl (List.mem_of_getElem? (i := 25) rfl) rfl
theorem mw_207 : (.methodLink RX11 278 yX11_refusalAt : Cond) ∈ gwL := gw_at 5 (z := tables_1_5) rfl (List.mem_of_getElem? (i := 22) rfl) rfl
theorem mw_208 : (.instanceMethod yX11_refusalAt : Cond) ∈ gwL := gw_at 5 (z := tables_1_5) rfl (List.mem_of_getElem? (i := 24) rfl) rfl
theorem mw_209 : (.selects RX11 yX11_refusalAt yX11_refusalAt : Cond) ∈ gwL := gw_at 0 (z := (k2_sels lw_privs)) rfl (List.mem_of_getElem? (i := 45) rfl) rfl
theorem mw_210 : (.constantLong RX11 289 (-9223372036854775808) : Cond) ∈ gwL := gw_at 5 (z := tables_1_5) rfl (List.mem_of_getElem? (i := 38) rfl) rfl
theorem mw_211 : (.fieldLink RX11 310 "SetAgain$Chair" "sitters" "I" : Cond) ∈ gwL := gw_at 1 (z := tables_1_1) rfl (List.mem_of_getElem? (i := 84) rfl) rfl
theorem mw_212 : (.fieldLink RX11 313 "SetAgain$Law" "length" "I" : Cond) ∈ gwL := gw_at 1 (z := tables_1_1) rfl (List.mem_of_getElem? (i := 39) rfl) rfl
theorem mw_213 : (.constantLong RX12 113 (2) : Cond) ∈ gwL := gw_at 6 (z := tables_1_6) rfl (List.mem_of_getElem? (i := 38) rfl) rfl
theorem mw_214 : (.code yX12_within cX12_within 6 (some .boolean) : Cond) ∈ gwL := gw_at 6 (z := tables_1_6) rfl (List.mem_of_getElem? (i := 6) rfl) rfl
theorem mw_215 : (.methodLink RX12 109 yX12_within : Cond) ∈ gwL := gw_at 6 (z := tables_1_6) rfl (List.mem_of_getElem? (i := 4) rfl) rfl
theorem mw_216 : (.static yX12_within : Cond) ∈ gwL := gw_at 6 (z := tables_1_6) rfl (List.mem_of_getElem? (i := 5) rfl) rfl
theorem mw_217 : (.initialized RX12 : Cond) ∈ gwL := gw_at 1 (z := tables_1_1) rfl (List.mem_of_getElem? (i := 13) rfl) rfl
theorem mw_218 : (.constantLong RX12 115 (60) : Cond) ∈ gwL := gw_at 6 (z := tables_1_6) rfl (List.mem_of_getElem? (i := 3) rfl) rfl
theorem mw_219 : (.constantLong RX12 385 (5) : Cond) ∈ gwL := gw_at 6 (z := tables_1_6) rfl (List.mem_of_getElem? (i := 19) rfl) rfl
theorem mw_220 : (.fieldLink RX12 106 "SetAgainModel" "sitters" "I" : Cond) ∈ gwL := gw_at 5 (z := tables_1_5) rfl (List.mem_of_getElem? (i := 68) rfl) rfl
theorem mw_221 : (.fieldLink RX12 355 "SetAgainModel" "bodies" "I" : Cond) ∈ gwL := gw_at 5 (z := tables_1_5) rfl (List.mem_of_getElem? (i := 107) rfl) rfl
theorem mw_222 : (.code yX12_isShelf cX12_isShelf 1 (some .boolean) : Cond) ∈ gwL := gw_at 6 (z := tables_1_6) rfl (List.mem_of_getElem? (i := 18) rfl) rfl
theorem mw_223 : (.methodLink RX12 127 yX12_isShelf : Cond) ∈ gwL := gw_at 6 (z := tables_1_6) rfl (List.mem_of_getElem? (i := 16) rfl) rfl
theorem mw_224 : (.static yX12_isShelf : Cond) ∈ gwL := gw_at 6 (z := tables_1_6) rfl (List.mem_of_getElem? (i := 17) rfl) rfl
theorem mw_225 : (.fieldLink RX12 74 "SetAgainModel" "shelf" "[I" : Cond) ∈ gwL := gw_at 5 (z := tables_1_5) rfl (List.mem_of_getElem? (i := 113) rfl) rfl
theorem mw_226 : (.code yX12_isSitter cX12_isSitter 3 (some .boolean) : Cond) ∈ gwL := gw_at 6 (z := tables_1_6) rfl (List.mem_of_getElem? (i := 33) rfl) rfl
theorem mw_227 : (.methodLink RX12 135 yX12_isSitter : Cond) ∈ gwL := gw_at 6 (z := tables_1_6) rfl (List.mem_of_getElem? (i := 30) rfl) rfl
theorem mw_228 : (.instanceMethod yX12_isSitter : Cond) ∈ gwL := gw_at 6 (z := tables_1_6) rfl (List.mem_of_getElem? (i := 32) rfl) rfl
theorem mw_229 : (.selects RX12 yX12_isSitter yX12_isSitter : Cond) ∈ gwL := gw_at 0 (z := (k2_sels lw_privs)) rfl (List.mem_of_getElem? (i := 48) rfl) rfl
theorem mw_230 : (.code yX12_bytesIs cX12_bytesIs 2 (some .int) : Cond) ∈ gwL := gw_at 6 (z := tables_1_6) rfl (List.mem_of_getElem? (i := 124) rfl) rfl
theorem mw_231 : (.methodLink RX12 224 yX12_bytesIs : Cond) ∈ gwL := gw_at 6 (z := tables_1_6) rfl (List.mem_of_getElem? (i := 121) rfl) rfl
theorem mw_232 : (.instanceMethod yX12_bytesIs : Cond) ∈ gwL := gw_at 6 (z := tables_1_6) rfl (List.mem_of_getElem? (i := 123) rfl) rfl
theorem mw_233 : (.selects RX12 yX12_bytesIs yX12_bytesIs : Cond) ∈ gwL := gw_at 0 (z := (k2_sels lw_privs)) rfl (List.mem_of_getElem? (i := 62) rfl) rfl
theorem mw_234 : (.code yX12_isPart cX12_isPart 1 (some .boolean) : Cond) ∈ gwL := gw_at 6 (z := tables_1_6) rfl (List.mem_of_getElem? (i := 37) rfl) rfl
theorem mw_235 : (.methodLink RX12 140 yX12_isPart : Cond) ∈ gwL := gw_at 6 (z := tables_1_6) rfl (List.mem_of_getElem? (i := 35) rfl) rfl
theorem mw_236 : (.static yX12_isPart : Cond) ∈ gwL := gw_at 6 (z := tables_1_6) rfl (List.mem_of_getElem? (i := 36) rfl) rfl
theorem mw_237 : (.code yX12_isSetting cX12_isSetting 2 (some .boolean) : Cond) ∈ gwL := gw_at 6 (z := tables_1_6) rfl (List.mem_of_getElem? (i := 2) rfl) rfl
theorem mw_238 : (.methodLink RX12 117 yX12_isSetting : Cond) ∈ gwL := gw_at 6 (z := tables_1_6) rfl (List.mem_of_getElem? (i := 0) rfl) rfl
theorem mw_239 : (.static yX12_isSetting : Cond) ∈ gwL := gw_at 6 (z := tables_1_6) rfl (List.mem_of_getElem? (i := 1) rfl) rfl
theorem mw_240 : (.constantLong RX12 230 (3) : Cond) ∈ gwL := gw_at 6 (z := tables_1_6) rfl (List.mem_of_getElem? (i := 141) rfl) rfl
theorem mw_241 : (.constant RX12 308 (-2000000000) : Cond) ∈ gwL := gw_at 7 (z := tables_1_7) rfl (List.mem_of_getElem? (i := 0) rfl) rfl
theorem mw_242 : (.constantLong RX12 323 (11) : Cond) ∈ gwL := gw_at 7 (z := tables_1_7) rfl (List.mem_of_getElem? (i := 21) rfl) rfl
theorem mw_243 : (.constantLong RX12 334 (20) : Cond) ∈ gwL := gw_at 7 (z := tables_1_7) rfl (List.mem_of_getElem? (i := 43) rfl) rfl
theorem mw_244 : (.fieldLink RX12 9 "SetAgainModel" "may" "[I" : Cond) ∈ gwL := gw_at 5 (z := tables_1_5) rfl (List.mem_of_getElem? (i := 62) rfl) rfl
theorem mw_245 : (.constantLong RX12 121 (12) : Cond) ∈ gwL := gw_at 6 (z := tables_1_6) rfl (List.mem_of_getElem? (i := 7) rfl) rfl
theorem mw_246 : (.code yX12_adds cX12_adds 6 none : Cond) ∈ gwL := gw_at 6 (z := tables_1_6) rfl (List.mem_of_getElem? (i := 11) rfl) rfl
theorem mw_247 : (.methodLink RX12 123 yX12_adds : Cond) ∈ gwL := gw_at 6 (z := tables_1_6) rfl (List.mem_of_getElem? (i := 8) rfl) rfl
theorem mw_248 : (.instanceMethod yX12_adds : Cond) ∈ gwL := gw_at 6 (z := tables_1_6) rfl (List.mem_of_getElem? (i := 10) rfl) rfl
theorem mw_249 : (.selects RX12 yX12_adds yX12_adds : Cond) ∈ gwL := gw_at 0 (z := (k2_sels lw_privs)) rfl (List.mem_of_getElem? (i := 46) rfl) rfl
theorem mw_250 : (.constantLong RX12 131 (8) : Cond) ∈ gwL := gw_at 6 (z := tables_1_6) rfl (List.mem_of_getElem? (i := 20) rfl) rfl
theorem mw_251 : (.constantLong RX12 133 (7) : Cond) ∈ gwL := gw_at 6 (z := tables_1_6) rfl (List.mem_of_getElem? (i := 29) rfl) rfl
theorem mw_252 : (.constantLong RX12 138 (9) : Cond) ∈ gwL := gw_at 6 (z := tables_1_6) rfl (List.mem_of_getElem? (i := 34) rfl) rfl
theorem mw_253 : (.fieldLink RX12 100 "SetAgainModel" "done" "I" : Cond) ∈ gwL := gw_at 5 (z := tables_1_5) rfl (List.mem_of_getElem? (i := 67) rfl) rfl
theorem mw_254 : (.fieldLink RX12 13 "SetAgainModel" "changeAt" "[I" : Cond) ∈ gwL := gw_at 5 (z := tables_1_5) rfl (List.mem_of_getElem? (i := 63) rfl) rfl
theorem mw_255 : (.fieldLink RX12 16 "SetAgainModel" "changeWas" "[I" : Cond) ∈ gwL := gw_at 5 (z := tables_1_5) rfl (List.mem_of_getElem? (i := 64) rfl) rfl
theorem mw_256 : (.fieldLink RX12 19 "SetAgainModel" "changeIs" "[I" : Cond) ∈ gwL := gw_at 5 (z := tables_1_5) rfl (List.mem_of_getElem? (i := 65) rfl) rfl
theorem mw_257 : (.fieldLink RX12 103 "SetAgainModel" "keptMany" "I" : Cond) ∈ gwL := gw_at 5 (z := tables_1_5) rfl (List.mem_of_getElem? (i := 66) rfl) rfl
theorem mw_258 : (.code yX12_placeOf cX12_placeOf 3 (some .int) : Cond) ∈ gwL := gw_at 6 (z := tables_1_6) rfl (List.mem_of_getElem? (i := 28) rfl) rfl
theorem mw_259 : (.methodLink RX12 143 yX12_placeOf : Cond) ∈ gwL := gw_at 6 (z := tables_1_6) rfl (List.mem_of_getElem? (i := 25) rfl) rfl
theorem mw_260 : (.instanceMethod yX12_placeOf : Cond) ∈ gwL := gw_at 6 (z := tables_1_6) rfl (List.mem_of_getElem? (i := 27) rfl) rfl
theorem mw_261 : (.selects RX12 yX12_placeOf yX12_placeOf : Cond) ∈ gwL := gw_at 0 (z := (k2_sels lw_privs)) rfl (List.mem_of_getElem? (i := 47) rfl) rfl
theorem mw_262 : (.code yX12_mostOf cX12_mostOf 1 (some .int) : Cond) ∈ gwL := gw_at 6 (z := tables_1_6) rfl (List.mem_of_getElem? (i := 41) rfl) rfl
theorem mw_263 : (.methodLink RX12 147 yX12_mostOf : Cond) ∈ gwL := gw_at 6 (z := tables_1_6) rfl (List.mem_of_getElem? (i := 39) rfl) rfl
theorem mw_264 : (.static yX12_mostOf : Cond) ∈ gwL := gw_at 6 (z := tables_1_6) rfl (List.mem_of_getElem? (i := 40) rfl) rfl
theorem mw_265 : (.code yX12_becomes cX12_becomes 5 (some .int) : Cond) ∈ gwL := gw_at 6 (z := tables_1_6) rfl (List.mem_of_getElem? (i := 45) rfl) rfl
theorem mw_266 : (.methodLink RX12 151 yX12_becomes : Cond) ∈ gwL := gw_at 6 (z := tables_1_6) rfl (List.mem_of_getElem? (i := 42) rfl) rfl
theorem mw_267 : (.instanceMethod yX12_becomes : Cond) ∈ gwL := gw_at 6 (z := tables_1_6) rfl (List.mem_of_getElem? (i := 44) rfl) rfl
theorem mw_268 : (.selects RX12 yX12_becomes yX12_becomes : Cond) ∈ gwL := gw_at 0 (z := (k2_sels lw_privs)) rfl (List.mem_of_getElem? (i := 49) rfl) rfl
theorem mw_269 : (.fieldLink RX12 22 "SetAgainModel" "stands" "[I" : Cond) ∈ gwL := gw_at 5 (z := tables_1_5) rfl (List.mem_of_getElem? (i := 69) rfl) rfl
theorem mw_270 : (.constantLong RX12 154 (255) : Cond) ∈ gwL := gw_at 6 (z := tables_1_6) rfl (List.mem_of_getElem? (i := 54) rfl) rfl
theorem mw_271 : (.fieldLink RX12 156 "SetAgainModel" "tapeMany" "I" : Cond) ∈ gwL := gw_at 5 (z := tables_1_5) rfl (List.mem_of_getElem? (i := 71) rfl) rfl
theorem mw_272 : (.fieldLink RX12 25 "SetAgainModel" "tape" "[I" : Cond) ∈ gwL := gw_at 5 (z := tables_1_5) rfl (List.mem_of_getElem? (i := 70) rfl) rfl
theorem mw_273 : (.fieldLink RX12 159 "SetAgainModel" "at" "I" : Cond) ∈ gwL := gw_at 5 (z := tables_1_5) rfl (List.mem_of_getElem? (i := 75) rfl) rfl
theorem mw_274 : (.fieldLink RX12 162 "SetAgainModel" "ends" "I" : Cond) ∈ gwL := gw_at 5 (z := tables_1_5) rfl (List.mem_of_getElem? (i := 76) rfl) rfl
theorem mw_275 : (.fieldLink RX12 168 "SetAgainModel" "fault" "I" : Cond) ∈ gwL := gw_at 5 (z := tables_1_5) rfl (List.mem_of_getElem? (i := 77) rfl) rfl
theorem mw_276 : (.code yX12_byteAt cX12_byteAt 1 (some .int) : Cond) ∈ gwL := gw_at 6 (z := tables_1_6) rfl (List.mem_of_getElem? (i := 90) rfl) rfl
theorem mw_277 : (.methodLink RX12 171 yX12_byteAt : Cond) ∈ gwL := gw_at 6 (z := tables_1_6) rfl (List.mem_of_getElem? (i := 87) rfl) rfl
theorem mw_278 : (.instanceMethod yX12_byteAt : Cond) ∈ gwL := gw_at 6 (z := tables_1_6) rfl (List.mem_of_getElem? (i := 89) rfl) rfl
theorem mw_279 : (.selects RX12 yX12_byteAt yX12_byteAt : Cond) ∈ gwL := gw_at 0 (z := (k2_sels lw_privs)) rfl (List.mem_of_getElem? (i := 57) rfl) rfl
theorem mw_280 : (.code yX12_nameOf cX12_nameOf 1 (some .int) : Cond) ∈ gwL := gw_at 6 (z := tables_1_6) rfl (List.mem_of_getElem? (i := 101) rfl) rfl
theorem mw_281 : (.methodLink RX12 202 yX12_nameOf : Cond) ∈ gwL := gw_at 6 (z := tables_1_6) rfl (List.mem_of_getElem? (i := 99) rfl) rfl
theorem mw_282 : (.static yX12_nameOf : Cond) ∈ gwL := gw_at 6 (z := tables_1_6) rfl (List.mem_of_getElem? (i := 100) rfl) rfl
theorem mw_283 : (.code yX12_wrong cX12_wrong 1 (some .int) : Cond) ∈ gwL := gw_at 6 (z := tables_1_6) rfl (List.mem_of_getElem? (i := 94) rfl) rfl
theorem mw_284 : (.methodLink RX12 196 yX12_wrong : Cond) ∈ gwL := gw_at 6 (z := tables_1_6) rfl (List.mem_of_getElem? (i := 91) rfl) rfl
theorem mw_285 : (.instanceMethod yX12_wrong : Cond) ∈ gwL := gw_at 6 (z := tables_1_6) rfl (List.mem_of_getElem? (i := 93) rfl) rfl
theorem mw_286 : (.selects RX12 yX12_wrong yX12_wrong : Cond) ∈ gwL := gw_at 0 (z := (k2_sels lw_privs)) rfl (List.mem_of_getElem? (i := 58) rfl) rfl
theorem mw_287 : (.code yX12_one cX12_one 5 (some .int) : Cond) ∈ gwL := gw_at 6 (z := tables_1_6) rfl (List.mem_of_getElem? (i := 86) rfl) rfl
theorem mw_288 : (.methodLink RX12 190 yX12_one : Cond) ∈ gwL := gw_at 6 (z := tables_1_6) rfl (List.mem_of_getElem? (i := 83) rfl) rfl
theorem mw_289 : (.instanceMethod yX12_one : Cond) ∈ gwL := gw_at 6 (z := tables_1_6) rfl (List.mem_of_getElem? (i := 85) rfl) rfl
theorem mw_290 : (.selects RX12 yX12_one yX12_one : Cond) ∈ gwL := gw_at 0 (z := (k2_sels lw_privs)) rfl (List.mem_of_getElem? (i := 56) rfl) rfl
theorem mw_291 : (.code yX12_product cX12_product 4 (some .int) : Cond) ∈ gwL := gw_at 6 (z := tables_1_6) rfl (List.mem_of_getElem? (i := 82) rfl) rfl
theorem mw_292 : (.methodLink RX12 187 yX12_product : Cond) ∈ gwL := gw_at 6 (z := tables_1_6) rfl (List.mem_of_getElem? (i := 79) rfl) rfl
theorem mw_293 : (.instanceMethod yX12_product : Cond) ∈ gwL := gw_at 6 (z := tables_1_6) rfl (List.mem_of_getElem? (i := 81) rfl) rfl
theorem mw_294 : (.selects RX12 yX12_product yX12_product : Cond) ∈ gwL := gw_at 0 (z := (k2_sels lw_privs)) rfl (List.mem_of_getElem? (i := 55) rfl) rfl
theorem mw_295 : (.code yX12_sums cX12_sums 4 (some .int) : Cond) ∈ gwL := gw_at 6 (z := tables_1_6) rfl (List.mem_of_getElem? (i := 78) rfl) rfl
theorem mw_296 : (.methodLink RX12 184 yX12_sums : Cond) ∈ gwL := gw_at 6 (z := tables_1_6) rfl (List.mem_of_getElem? (i := 75) rfl) rfl
theorem mw_297 : (.instanceMethod yX12_sums : Cond) ∈ gwL := gw_at 6 (z := tables_1_6) rfl (List.mem_of_getElem? (i := 77) rfl) rfl
theorem mw_298 : (.selects RX12 yX12_sums yX12_sums : Cond) ∈ gwL := gw_at 0 (z := (k2_sels lw_privs)) rfl (List.mem_of_getElem? (i := 54) rfl) rfl
theorem mw_299 : (.code yX12_compared cX12_compared 4 (some .int) : Cond) ∈ gwL := gw_at 6 (z := tables_1_6) rfl (List.mem_of_getElem? (i := 74) rfl) rfl
theorem mw_300 : (.methodLink RX12 181 yX12_compared : Cond) ∈ gwL := gw_at 6 (z := tables_1_6) rfl (List.mem_of_getElem? (i := 71) rfl) rfl
theorem mw_301 : (.instanceMethod yX12_compared : Cond) ∈ gwL := gw_at 6 (z := tables_1_6) rfl (List.mem_of_getElem? (i := 73) rfl) rfl
theorem mw_302 : (.selects RX12 yX12_compared yX12_compared : Cond) ∈ gwL := gw_at 0 (z := (k2_sels lw_privs)) rfl (List.mem_of_getElem? (i := 53) rfl) rfl
theorem mw_303 : (.code yX12_takes cX12_takes 2 (some .boolean) : Cond) ∈ gwL := gw_at 6 (z := tables_1_6) rfl (List.mem_of_getElem? (i := 98) rfl) rfl
theorem mw_304 : (.methodLink RX12 178 yX12_takes : Cond) ∈ gwL := gw_at 6 (z := tables_1_6) rfl (List.mem_of_getElem? (i := 95) rfl) rfl
theorem mw_305 : (.instanceMethod yX12_takes : Cond) ∈ gwL := gw_at 6 (z := tables_1_6) rfl (List.mem_of_getElem? (i := 97) rfl) rfl
theorem mw_306 : (.selects RX12 yX12_takes yX12_takes : Cond) ∈ gwL := gw_at 0 (z := (k2_sels lw_privs)) rfl (List.mem_of_getElem? (i := 59) rfl) rfl
theorem mw_307 : (.code yX12_both cX12_both 3 (some .int) : Cond) ∈ gwL := gw_at 6 (z := tables_1_6) rfl (List.mem_of_getElem? (i := 70) rfl) rfl
theorem mw_308 : (.methodLink RX12 175 yX12_both : Cond) ∈ gwL := gw_at 6 (z := tables_1_6) rfl (List.mem_of_getElem? (i := 67) rfl) rfl
theorem mw_309 : (.instanceMethod yX12_both : Cond) ∈ gwL := gw_at 6 (z := tables_1_6) rfl (List.mem_of_getElem? (i := 69) rfl) rfl
theorem mw_310 : (.selects RX12 yX12_both yX12_both : Cond) ∈ gwL := gw_at 0 (z := (k2_sels lw_privs)) rfl (List.mem_of_getElem? (i := 52) rfl) rfl
theorem mw_311 : (.fieldLink RX12 165 "SetAgainModel" "base" "I" : Cond) ∈ gwL := gw_at 5 (z := tables_1_5) rfl (List.mem_of_getElem? (i := 74) rfl) rfl
theorem mw_312 : (.fieldLink RX12 193 "SetAgainModel" "opened" "I" : Cond) ∈ gwL := gw_at 5 (z := tables_1_5) rfl (List.mem_of_getElem? (i := 78) rfl) rfl
theorem mw_313 : (.code yX12_either cX12_either 3 (some .int) : Cond) ∈ gwL := gw_at 6 (z := tables_1_6) rfl (List.mem_of_getElem? (i := 66) rfl) rfl
theorem mw_314 : (.methodLink RX12 199 yX12_either : Cond) ∈ gwL := gw_at 6 (z := tables_1_6) rfl (List.mem_of_getElem? (i := 63) rfl) rfl
theorem mw_315 : (.instanceMethod yX12_either : Cond) ∈ gwL := gw_at 6 (z := tables_1_6) rfl (List.mem_of_getElem? (i := 65) rfl) rfl
theorem mw_316 : (.selects RX12 yX12_either yX12_either : Cond) ∈ gwL := gw_at 0 (z := (k2_sels lw_privs)) rfl (List.mem_of_getElem? (i := 51) rfl) rfl
theorem mw_317 : (.code yX12_workOut cX12_workOut 8 (some .int) : Cond) ∈ gwL := gw_at 6 (z := tables_1_6) rfl (List.mem_of_getElem? (i := 62) rfl) rfl
theorem mw_318 : (.methodLink RX12 205 yX12_workOut : Cond) ∈ gwL := gw_at 6 (z := tables_1_6) rfl (List.mem_of_getElem? (i := 59) rfl) rfl
theorem mw_319 : (.instanceMethod yX12_workOut : Cond) ∈ gwL := gw_at 6 (z := tables_1_6) rfl (List.mem_of_getElem? (i := 61) rfl) rfl
theorem mw_320 : (.selects RX12 yX12_workOut yX12_workOut : Cond) ∈ gwL := gw_at 0 (z := (k2_sels lw_privs)) rfl (List.mem_of_getElem? (i := 50) rfl) rfl
theorem mw_321 : (.code yX12_sizeOf cX12_sizeOf 1 (some .int) : Cond) ∈ gwL := gw_at 6 (z := tables_1_6) rfl (List.mem_of_getElem? (i := 116) rfl) rfl
theorem mw_322 : (.methodLink RX12 211 yX12_sizeOf : Cond) ∈ gwL := gw_at 6 (z := tables_1_6) rfl (List.mem_of_getElem? (i := 114) rfl) rfl
theorem mw_323 : (.static yX12_sizeOf : Cond) ∈ gwL := gw_at 6 (z := tables_1_6) rfl (List.mem_of_getElem? (i := 115) rfl) rfl
theorem mw_324 : (.fieldLink RX12 340 "SetAgainModel" "ledTurns" "I" : Cond) ∈ gwL := gw_at 5 (z := tables_1_5) rfl (List.mem_of_getElem? (i := 101) rfl) rfl
theorem mw_325 : (.code yX12_slipped cX12_slipped 4 (some .int) : Cond) ∈ gwL := gw_at 6 (z := tables_1_6) rfl (List.mem_of_getElem? (i := 181) rfl) rfl
theorem mw_326 : (.methodLink RX12 248 yX12_slipped : Cond) ∈ gwL := gw_at 6 (z := tables_1_6) rfl (List.mem_of_getElem? (i := 178) rfl) rfl
theorem mw_327 : (.instanceMethod yX12_slipped : Cond) ∈ gwL := gw_at 6 (z := tables_1_6) rfl (List.mem_of_getElem? (i := 180) rfl) rfl
theorem mw_328 : (.selects RX12 yX12_slipped yX12_slipped : Cond) ∈ gwL := gw_at 0 (z := (k2_sels lw_privs)) rfl (List.mem_of_getElem? (i := 73) rfl) rfl
theorem mw_329 : (.fieldLink RX12 337 "SetAgainModel" "ledShifts" "I" : Cond) ∈ gwL := gw_at 5 (z := tables_1_5) rfl (List.mem_of_getElem? (i := 100) rfl) rfl
theorem mw_330 : (.fieldLink RX12 343 "SetAgainModel" "ledLosses" "I" : Cond) ∈ gwL := gw_at 5 (z := tables_1_5) rfl (List.mem_of_getElem? (i := 102) rfl) rfl
theorem mw_331 : (.fieldLink RX12 346 "SetAgainModel" "ledDearest" "I" : Cond) ∈ gwL := gw_at 5 (z := tables_1_5) rfl (List.mem_of_getElem? (i := 103) rfl) rfl
theorem mw_332 : (.fieldLink RX12 91 "SetAgainModel" "ledWho" "I" : Cond) ∈ gwL := gw_at 5 (z := tables_1_5) rfl (List.mem_of_getElem? (i := 104) rfl) rfl
theorem mw_333 : (.fieldLink RX12 349 "SetAgainModel" "isKept" "Z" : Cond) ∈ gwL := gw_at 5 (z := tables_1_5) rfl (List.mem_of_getElem? (i := 105) rfl) rfl
theorem mw_334 : (.fieldLink RX12 65 "SetAgainModel" "image" "[I" : Cond) ∈ gwL := gw_at 5 (z := tables_1_5) rfl (List.mem_of_getElem? (i := 106) rfl) rfl
theorem mw_335 : (.code yX12_led cX12_led 2 (some .int) : Cond) ∈ gwL := gw_at 7 (z := tables_1_7) rfl (List.mem_of_getElem? (i := 60) rfl) rfl
theorem mw_336 : (.methodLink RX12 352 yX12_led : Cond) ∈ gwL := gw_at 7 (z := tables_1_7) rfl (List.mem_of_getElem? (i := 65) rfl) rfl
theorem mw_337 : (.instanceMethod yX12_led : Cond) ∈ gwL := gw_at 7 (z := tables_1_7) rfl (List.mem_of_getElem? (i := 58) rfl) rfl
theorem mw_338 : (.selects RX12 yX12_led yX12_led : Cond) ∈ gwL := gw_at 7 (z := tables_1_7) rfl (List.mem_of_getElem? (i := 59) rfl) rfl
theorem mw_339 : (.fieldLink RX12 68 "SetAgainModel" "bodyKind" "[I" : Cond) ∈ gwL := gw_at 5 (z := tables_1_5) rfl (List.mem_of_getElem? (i := 108) rfl) rfl
theorem mw_340 : (.fieldLink RX12 358 "SetAgainModel" "ran" "I" : Cond) ∈ gwL := gw_at 5 (z := tables_1_5) rfl (List.mem_of_getElem? (i := 110) rfl) rfl
theorem mw_341 : (.code yX12_isBody cX12_isBody 2 (some .boolean) : Cond) ∈ gwL := gw_at 7 (z := tables_1_7) rfl (List.mem_of_getElem? (i := 81) rfl) rfl
theorem mw_342 : (.methodLink RX12 382 yX12_isBody : Cond) ∈ gwL := gw_at 7 (z := tables_1_7) rfl (List.mem_of_getElem? (i := 78) rfl) rfl
theorem mw_343 : (.instanceMethod yX12_isBody : Cond) ∈ gwL := gw_at 7 (z := tables_1_7) rfl (List.mem_of_getElem? (i := 80) rfl) rfl
theorem mw_344 : (.selects RX12 yX12_isBody yX12_isBody : Cond) ∈ gwL := gw_at 0 (z := (k2_sels lw_privs)) rfl (List.mem_of_getElem? (i := 86) rfl) rfl
theorem mw_345 : (.fieldLink RX12 77 "SetAgainModel" "many" "[I" : Cond) ∈ gwL := gw_at 5 (z := tables_1_5) rfl (List.mem_of_getElem? (i := 114) rfl) rfl
theorem mw_346 : (.constantLong RX12 387 (4) : Cond) ∈ gwL := gw_at 7 (z := tables_1_7) rfl (List.mem_of_getElem? (i := 114) rfl) rfl
theorem mw_347 : (.fieldLink RX12 80 "SetAgainModel" "items" "[J" : Cond) ∈ gwL := gw_at 5 (z := tables_1_5) rfl (List.mem_of_getElem? (i := 115) rfl) rfl
theorem mw_348 : (.code yX12_refusal cX12_refusal 3 (some .int) : Cond) ∈ gwL := gw_at 7 (z := tables_1_7) rfl (List.mem_of_getElem? (i := 122) rfl) rfl
theorem mw_349 : (.methodLink RX12 389 yX12_refusal : Cond) ∈ gwL := gw_at 7 (z := tables_1_7) rfl (List.mem_of_getElem? (i := 119) rfl) rfl
theorem mw_350 : (.instanceMethod yX12_refusal : Cond) ∈ gwL := gw_at 7 (z := tables_1_7) rfl (List.mem_of_getElem? (i := 121) rfl) rfl
theorem mw_351 : (.selects RX12 yX12_refusal yX12_refusal : Cond) ∈ gwL := gw_at 0 (z := (k2_sels lw_privs)) rfl (List.mem_of_getElem? (i := 92) rfl) rfl
theorem mw_352 : (.constantLong RX12 398 (-9223372036854775808) : Cond) ∈ gwL := gw_at 7 (z := tables_1_7) rfl (List.mem_of_getElem? (i := 130) rfl) rfl
theorem mw_353 : (.methodLink RX5 3 objectInit : Cond) ∈ gwL := gw_at 1 (z := tables_1_1) rfl (List.mem_of_getElem? (i := 36) rfl) rfl
theorem mw_354 : (.instanceMethod objectInit : Cond) ∈ gwL := gw_at 1 (z := tables_1_1) rfl (List.mem_of_getElem? (i := 23) rfl) rfl
theorem mw_355 : (.code objectInit ⟨#[0xb1]⟩ 1 none : Cond) ∈ gwL := gw_at 1 (z := tables_1_1) rfl (List.mem_of_getElem? (i := 24) rfl) rfl
theorem mw_356 : (.arrayClass .int : Cond) ∈ gwL := gw_at 1 (z := tables_1_1) rfl (List.mem_of_getElem? (i := 70) rfl) rfl
theorem mw_357 : (.fieldLink RX5 18 "SetAgain$Law" "code" "[I" : Cond) ∈ gwL := gw_at 1 (z := tables_1_1) rfl (List.mem_of_getElem? (i := 43) rfl) rfl
theorem mw_358 : (.fieldLink RX5 21 "SetAgain$Law" "stack" "[I" : Cond) ∈ gwL := gw_at 1 (z := tables_1_1) rfl (List.mem_of_getElem? (i := 44) rfl) rfl
theorem mw_359 : (.methodLink RX0 5 objectInit : Cond) ∈ gwL := gw_at 1 (z := tables_1_1) rfl (List.mem_of_getElem? (i := 30) rfl) rfl
theorem mw_360 : (.fieldLink RX0 15 "SetAgain$Chair" "stands" "[I" : Cond) ∈ gwL := gw_at 1 (z := tables_1_1) rfl (List.mem_of_getElem? (i := 73) rfl) rfl
theorem mw_361 : (.classLink RX0 18 RX5 : Cond) ∈ gwL := gw_at 1 (z := tables_1_1) rfl (List.mem_of_getElem? (i := 31) rfl) rfl
theorem mw_362 : (.instantiable RX5 10 : Cond) ∈ gwL := gw_at 1 (z := tables_1_1) rfl (List.mem_of_getElem? (i := 32) rfl) rfl
theorem mw_363 : (.code yX5_init cX5_init 1 none : Cond) ∈ gwL := gw_at 1 (z := tables_1_1) rfl (List.mem_of_getElem? (i := 35) rfl) rfl
theorem mw_364 : (.instanceMethod yX5_init : Cond) ∈ gwL := gw_at 1 (z := tables_1_1) rfl (List.mem_of_getElem? (i := 34) rfl) rfl
theorem mw_365 : (.fieldLink RX0 21 "SetAgain$Chair" "law" "LSetAgain$Law;" : Cond) ∈ gwL := gw_at 1 (z := tables_1_1) rfl (List.mem_of_getElem? (i := 79) rfl) rfl
theorem mw_366 : (.methodLink RX10 3 objectInit : Cond) ∈ gwL := gw_at 1 (z := tables_1_1) rfl (List.mem_of_getElem? (i := 102) rfl) rfl
theorem mw_367 : (.fieldLink RX10 9 "SetAgain$Week" "sitters" "[I" : Cond) ∈ gwL := gw_at 1 (z := tables_1_1) rfl (List.mem_of_getElem? (i := 103) rfl) rfl
theorem mw_368 : (.fieldLink RX10 15 "SetAgain$Week" "times" "[I" : Cond) ∈ gwL := gw_at 1 (z := tables_1_1) rfl (List.mem_of_getElem? (i := 107) rfl) rfl
theorem mw_369 : (.methodLink RX4 3 objectInit : Cond) ∈ gwL := gw_at 1 (z := tables_1_1) rfl (List.mem_of_getElem? (i := 129) rfl) rfl
theorem mw_370 : (.fieldLink RX4 9 "SetAgain$Habits" "stand" "[I" : Cond) ∈ gwL := gw_at 1 (z := tables_1_1) rfl (List.mem_of_getElem? (i := 132) rfl) rfl
theorem mw_371 : (.fieldLink RX4 15 "SetAgain$Habits" "turns" "[I" : Cond) ∈ gwL := gw_at 1 (z := tables_1_1) rfl (List.mem_of_getElem? (i := 135) rfl) rfl
theorem mw_372 : (.fieldLink RX4 18 "SetAgain$Habits" "spared" "[I" : Cond) ∈ gwL := gw_at 1 (z := tables_1_1) rfl (List.mem_of_getElem? (i := 136) rfl) rfl
theorem mw_373 : (.fieldLink RX4 21 "SetAgain$Habits" "tried" "I" : Cond) ∈ gwL := gw_at 1 (z := tables_1_1) rfl (List.mem_of_getElem? (i := 143) rfl) rfl
theorem mw_374 : (.fieldLink RX4 25 "SetAgain$Habits" "leaver" "I" : Cond) ∈ gwL := gw_at 1 (z := tables_1_1) rfl (List.mem_of_getElem? (i := 145) rfl) rfl
theorem mw_375 : (.fieldLink RX4 28 "SetAgain$Habits" "chair" "LSetAgain$Chair;" : Cond) ∈ gwL := gw_at 1 (z := tables_1_1) rfl (List.mem_of_getElem? (i := 130) rfl) rfl
theorem mw_376 : (.fieldLink RX4 32 "SetAgain$Habits" "week" "LSetAgain$Week;" : Cond) ∈ gwL := gw_at 1 (z := tables_1_1) rfl (List.mem_of_getElem? (i := 131) rfl) rfl
theorem mw_377 : (.methodLink RX8 3 objectInit : Cond) ∈ gwL := gw_at 1 (z := tables_1_1) rfl (List.mem_of_getElem? (i := 175) rfl) rfl
theorem mw_378 : (.fieldLink RX8 9 "SetAgain$Still" "weight" "[I" : Cond) ∈ gwL := gw_at 1 (z := tables_1_1) rfl (List.mem_of_getElem? (i := 178) rfl) rfl
theorem mw_379 : (.arrayClass .boolean : Cond) ∈ gwL := gw_at 1 (z := tables_1_1) rfl (List.mem_of_getElem? (i := 216) rfl) rfl
theorem mw_380 : (.fieldLink RX8 15 "SetAgain$Still" "wanted" "[Z" : Cond) ∈ gwL := gw_at 1 (z := tables_1_1) rfl (List.mem_of_getElem? (i := 179) rfl) rfl
theorem mw_381 : (.fieldLink RX8 19 "SetAgain$Still" "ones" "[I" : Cond) ∈ gwL := gw_at 1 (z := tables_1_1) rfl (List.mem_of_getElem? (i := 180) rfl) rfl
theorem mw_382 : (.fieldLink RX8 22 "SetAgain$Still" "sums" "[I" : Cond) ∈ gwL := gw_at 1 (z := tables_1_1) rfl (List.mem_of_getElem? (i := 181) rfl) rfl
theorem mw_383 : (.fieldLink RX8 25 "SetAgain$Still" "leasts" "[I" : Cond) ∈ gwL := gw_at 1 (z := tables_1_1) rfl (List.mem_of_getElem? (i := 182) rfl) rfl
theorem mw_384 : (.fieldLink RX8 28 "SetAgain$Still" "group" "[I" : Cond) ∈ gwL := gw_at 1 (z := tables_1_1) rfl (List.mem_of_getElem? (i := 183) rfl) rfl
theorem mw_385 : (.fieldLink RX8 31 "SetAgain$Still" "bestGroup" "[I" : Cond) ∈ gwL := gw_at 1 (z := tables_1_1) rfl (List.mem_of_getElem? (i := 184) rfl) rfl
theorem mw_386 : (.fieldLink RX8 34 "SetAgain$Still" "chair" "LSetAgain$Chair;" : Cond) ∈ gwL := gw_at 1 (z := tables_1_1) rfl (List.mem_of_getElem? (i := 176) rfl) rfl
theorem mw_387 : (.fieldLink RX8 38 "SetAgain$Still" "week" "LSetAgain$Week;" : Cond) ∈ gwL := gw_at 1 (z := tables_1_1) rfl (List.mem_of_getElem? (i := 177) rfl) rfl
theorem mw_388 : (.methodLink RX9 3 objectInit : Cond) ∈ gwL := gw_at 1 (z := tables_1_1) rfl (List.mem_of_getElem? (i := 222) rfl) rfl
theorem mw_389 : (.fieldLink RX9 9 "SetAgain$Turning" "ahead" "[I" : Cond) ∈ gwL := gw_at 1 (z := tables_1_1) rfl (List.mem_of_getElem? (i := 225) rfl) rfl
theorem mw_390 : (.fieldLink RX9 15 "SetAgain$Turning" "chair" "LSetAgain$Chair;" : Cond) ∈ gwL := gw_at 1 (z := tables_1_1) rfl (List.mem_of_getElem? (i := 223) rfl) rfl
theorem mw_391 : (.fieldLink RX9 19 "SetAgain$Turning" "week" "LSetAgain$Week;" : Cond) ∈ gwL := gw_at 1 (z := tables_1_1) rfl (List.mem_of_getElem? (i := 224) rfl) rfl
theorem mw_392 : (.methodLink RX6 3 objectInit : Cond) ∈ gwL := gw_at 1 (z := tables_1_1) rfl (List.mem_of_getElem? (i := 238) rfl) rfl
theorem mw_393 : (.fieldLink RX6 9 "SetAgain$Seen" "chair" "LSetAgain$Chair;" : Cond) ∈ gwL := gw_at 1 (z := tables_1_1) rfl (List.mem_of_getElem? (i := 239) rfl) rfl
theorem mw_394 : (.methodLink RX2 3 objectInit : Cond) ∈ gwL := gw_at 2 (z := tables_1_2) rfl (List.mem_of_getElem? (i := 14) rfl) rfl
theorem mw_395 : (.fieldLink RX2 25 "SetAgain$Deed" "habits" "LSetAgain$Habits;" : Cond) ∈ gwL := gw_at 2 (z := tables_1_2) rfl (List.mem_of_getElem? (i := 16) rfl) rfl
theorem mw_396 : (.methodLink RX1 1 objectInit : Cond) ∈ gwL := gw_at 2 (z := tables_1_2) rfl (List.mem_of_getElem? (i := 40) rfl) rfl
theorem mw_397 : (.methodLink RX3 3 objectInit : Cond) ∈ gwL := gw_at 2 (z := tables_1_2) rfl (List.mem_of_getElem? (i := 67) rfl) rfl
theorem mw_398 : (.fieldLink RX3 15 "SetAgain$Desks" "trace" "[I" : Cond) ∈ gwL := gw_at 2 (z := tables_1_2) rfl (List.mem_of_getElem? (i := 69) rfl) rfl
theorem mw_399 : (.methodLink RX7 3 objectInit : Cond) ∈ gwL := gw_at 2 (z := tables_1_2) rfl (List.mem_of_getElem? (i := 96) rfl) rfl
theorem mw_400 : (.arrayClass .long : Cond) ∈ gwL := gw_at 2 (z := tables_1_2) rfl (List.mem_of_getElem? (i := 118) rfl) rfl
theorem mw_401 : (.methodLink RX11 3 objectInit : Cond) ∈ gwL := gw_at 1 (z := tables_1_1) rfl (List.mem_of_getElem? (i := 22) rfl) rfl
theorem mw_402 : (.classLink RX11 9 RX0 : Cond) ∈ gwL := gw_at 1 (z := tables_1_1) rfl (List.mem_of_getElem? (i := 25) rfl) rfl
theorem mw_403 : (.instantiable RX0 5 : Cond) ∈ gwL := gw_at 1 (z := tables_1_1) rfl (List.mem_of_getElem? (i := 26) rfl) rfl
theorem mw_404 : (.code yX0_init cX0_init 2 none : Cond) ∈ gwL := gw_at 1 (z := tables_1_1) rfl (List.mem_of_getElem? (i := 29) rfl) rfl
theorem mw_405 : (.methodLink RX11 11 yX0_init : Cond) ∈ gwL := gw_at 1 (z := tables_1_1) rfl (List.mem_of_getElem? (i := 27) rfl) rfl
theorem mw_406 : (.instanceMethod yX0_init : Cond) ∈ gwL := gw_at 1 (z := tables_1_1) rfl (List.mem_of_getElem? (i := 28) rfl) rfl
theorem mw_407 : (.classLink RX11 16 RX10 : Cond) ∈ gwL := gw_at 1 (z := tables_1_1) rfl (List.mem_of_getElem? (i := 97) rfl) rfl
theorem mw_408 : (.instantiable RX10 4 : Cond) ∈ gwL := gw_at 1 (z := tables_1_1) rfl (List.mem_of_getElem? (i := 98) rfl) rfl
theorem mw_409 : (.initialized RX10 : Cond) ∈ gwL := gw_at 1 (z := tables_1_1) rfl (List.mem_of_getElem? (i := 4) rfl) rfl
theorem mw_410 : (.code yX10_init cX10_init 1 none : Cond) ∈ gwL := gw_at 1 (z := tables_1_1) rfl (List.mem_of_getElem? (i := 101) rfl) rfl
theorem mw_411 : (.instanceMethod yX10_init : Cond) ∈ gwL := gw_at 1 (z := tables_1_1) rfl (List.mem_of_getElem? (i := 100) rfl) rfl
theorem mw_412 : (.fieldLink RX11 19 "SetAgain" "week" "LSetAgain$Week;" : Cond) ∈ gwL := gw_at 2 (z := tables_1_2) rfl (List.mem_of_getElem? (i := 120) rfl) rfl
theorem mw_413 : (.classLink RX11 23 RX4 : Cond) ∈ gwL := gw_at 1 (z := tables_1_1) rfl (List.mem_of_getElem? (i := 124) rfl) rfl
theorem mw_414 : (.instantiable RX4 11 : Cond) ∈ gwL := gw_at 1 (z := tables_1_1) rfl (List.mem_of_getElem? (i := 125) rfl) rfl
theorem mw_415 : (.initialized RX4 : Cond) ∈ gwL := gw_at 1 (z := tables_1_1) rfl (List.mem_of_getElem? (i := 5) rfl) rfl
theorem mw_416 : (.code yX4_init cX4_init 3 none : Cond) ∈ gwL := gw_at 1 (z := tables_1_1) rfl (List.mem_of_getElem? (i := 128) rfl) rfl
theorem mw_417 : (.methodLink RX11 25 yX4_init : Cond) ∈ gwL := gw_at 1 (z := tables_1_1) rfl (List.mem_of_getElem? (i := 126) rfl) rfl
theorem mw_418 : (.instanceMethod yX4_init : Cond) ∈ gwL := gw_at 1 (z := tables_1_1) rfl (List.mem_of_getElem? (i := 127) rfl) rfl
theorem mw_419 : (.fieldLink RX11 28 "SetAgain" "habits" "LSetAgain$Habits;" : Cond) ∈ gwL := gw_at 2 (z := tables_1_2) rfl (List.mem_of_getElem? (i := 121) rfl) rfl
theorem mw_420 : (.classLink RX11 32 RX8 : Cond) ∈ gwL := gw_at 1 (z := tables_1_1) rfl (List.mem_of_getElem? (i := 170) rfl) rfl
theorem mw_421 : (.instantiable RX8 13 : Cond) ∈ gwL := gw_at 1 (z := tables_1_1) rfl (List.mem_of_getElem? (i := 171) rfl) rfl
theorem mw_422 : (.initialized RX8 : Cond) ∈ gwL := gw_at 1 (z := tables_1_1) rfl (List.mem_of_getElem? (i := 6) rfl) rfl
theorem mw_423 : (.code yX8_init cX8_init 3 none : Cond) ∈ gwL := gw_at 1 (z := tables_1_1) rfl (List.mem_of_getElem? (i := 174) rfl) rfl
theorem mw_424 : (.methodLink RX11 34 yX8_init : Cond) ∈ gwL := gw_at 1 (z := tables_1_1) rfl (List.mem_of_getElem? (i := 172) rfl) rfl
theorem mw_425 : (.instanceMethod yX8_init : Cond) ∈ gwL := gw_at 1 (z := tables_1_1) rfl (List.mem_of_getElem? (i := 173) rfl) rfl
theorem mw_426 : (.fieldLink RX11 35 "SetAgain" "still" "LSetAgain$Still;" : Cond) ∈ gwL := gw_at 2 (z := tables_1_2) rfl (List.mem_of_getElem? (i := 122) rfl) rfl
theorem mw_427 : (.classLink RX11 39 RX9 : Cond) ∈ gwL := gw_at 1 (z := tables_1_1) rfl (List.mem_of_getElem? (i := 217) rfl) rfl
theorem mw_428 : (.instantiable RX9 3 : Cond) ∈ gwL := gw_at 1 (z := tables_1_1) rfl (List.mem_of_getElem? (i := 218) rfl) rfl
theorem mw_429 : (.initialized RX9 : Cond) ∈ gwL := gw_at 1 (z := tables_1_1) rfl (List.mem_of_getElem? (i := 7) rfl) rfl
theorem mw_430 : (.code yX9_init cX9_init 3 none : Cond) ∈ gwL := gw_at 1 (z := tables_1_1) rfl (List.mem_of_getElem? (i := 221) rfl) rfl
theorem mw_431 : (.methodLink RX11 41 yX9_init : Cond) ∈ gwL := gw_at 1 (z := tables_1_1) rfl (List.mem_of_getElem? (i := 219) rfl) rfl
theorem mw_432 : (.instanceMethod yX9_init : Cond) ∈ gwL := gw_at 1 (z := tables_1_1) rfl (List.mem_of_getElem? (i := 220) rfl) rfl
theorem mw_433 : (.fieldLink RX11 42 "SetAgain" "turning" "LSetAgain$Turning;" : Cond) ∈ gwL := gw_at 2 (z := tables_1_2) rfl (List.mem_of_getElem? (i := 123) rfl) rfl
theorem mw_434 : (.classLink RX11 46 RX6 : Cond) ∈ gwL := gw_at 1 (z := tables_1_1) rfl (List.mem_of_getElem? (i := 233) rfl) rfl
theorem mw_435 : (.instantiable RX6 3 : Cond) ∈ gwL := gw_at 1 (z := tables_1_1) rfl (List.mem_of_getElem? (i := 234) rfl) rfl
theorem mw_436 : (.initialized RX6 : Cond) ∈ gwL := gw_at 1 (z := tables_1_1) rfl (List.mem_of_getElem? (i := 8) rfl) rfl
theorem mw_437 : (.code yX6_init cX6_init 2 none : Cond) ∈ gwL := gw_at 1 (z := tables_1_1) rfl (List.mem_of_getElem? (i := 237) rfl) rfl
theorem mw_438 : (.methodLink RX11 48 yX6_init : Cond) ∈ gwL := gw_at 1 (z := tables_1_1) rfl (List.mem_of_getElem? (i := 235) rfl) rfl
theorem mw_439 : (.instanceMethod yX6_init : Cond) ∈ gwL := gw_at 1 (z := tables_1_1) rfl (List.mem_of_getElem? (i := 236) rfl) rfl
theorem mw_440 : (.fieldLink RX11 51 "SetAgain" "seen" "LSetAgain$Seen;" : Cond) ∈ gwL := gw_at 2 (z := tables_1_2) rfl (List.mem_of_getElem? (i := 124) rfl) rfl
theorem mw_441 : (.classLink RX11 55 RX2 : Cond) ∈ gwL := gw_at 2 (z := tables_1_2) rfl (List.mem_of_getElem? (i := 9) rfl) rfl
theorem mw_442 : (.instantiable RX2 6 : Cond) ∈ gwL := gw_at 2 (z := tables_1_2) rfl (List.mem_of_getElem? (i := 10) rfl) rfl
theorem mw_443 : (.code yX2_init cX2_init 3 none : Cond) ∈ gwL := gw_at 2 (z := tables_1_2) rfl (List.mem_of_getElem? (i := 13) rfl) rfl
theorem mw_444 : (.methodLink RX11 57 yX2_init : Cond) ∈ gwL := gw_at 2 (z := tables_1_2) rfl (List.mem_of_getElem? (i := 11) rfl) rfl
theorem mw_445 : (.instanceMethod yX2_init : Cond) ∈ gwL := gw_at 2 (z := tables_1_2) rfl (List.mem_of_getElem? (i := 12) rfl) rfl
theorem mw_446 : (.classLink RX11 64 RX1 : Cond) ∈ gwL := gw_at 2 (z := tables_1_2) rfl (List.mem_of_getElem? (i := 35) rfl) rfl
theorem mw_447 : (.instantiable RX1 5 : Cond) ∈ gwL := gw_at 2 (z := tables_1_2) rfl (List.mem_of_getElem? (i := 36) rfl) rfl
theorem mw_448 : (.code yX1_init cX1_init 1 none : Cond) ∈ gwL := gw_at 2 (z := tables_1_2) rfl (List.mem_of_getElem? (i := 39) rfl) rfl
theorem mw_449 : (.instanceMethod yX1_init : Cond) ∈ gwL := gw_at 2 (z := tables_1_2) rfl (List.mem_of_getElem? (i := 38) rfl) rfl
theorem mw_450 : (.classLink RX11 71 RX3 : Cond) ∈ gwL := gw_at 2 (z := tables_1_2) rfl (List.mem_of_getElem? (i := 62) rfl) rfl
theorem mw_451 : (.instantiable RX3 6 : Cond) ∈ gwL := gw_at 2 (z := tables_1_2) rfl (List.mem_of_getElem? (i := 63) rfl) rfl
theorem mw_452 : (.code yX3_init cX3_init 1 none : Cond) ∈ gwL := gw_at 2 (z := tables_1_2) rfl (List.mem_of_getElem? (i := 66) rfl) rfl
theorem mw_453 : (.instanceMethod yX3_init : Cond) ∈ gwL := gw_at 2 (z := tables_1_2) rfl (List.mem_of_getElem? (i := 65) rfl) rfl
theorem mw_454 : (.classLink RX11 78 RX7 : Cond) ∈ gwL := gw_at 2 (z := tables_1_2) rfl (List.mem_of_getElem? (i := 90) rfl) rfl
theorem mw_455 : (.instantiable RX7 4 : Cond) ∈ gwL := gw_at 2 (z := tables_1_2) rfl (List.mem_of_getElem? (i := 92) rfl) rfl
theorem mw_456 : (.code yX7_init cX7_init 1 none : Cond) ∈ gwL := gw_at 2 (z := tables_1_2) rfl (List.mem_of_getElem? (i := 95) rfl) rfl
theorem mw_457 : (.instanceMethod yX7_init : Cond) ∈ gwL := gw_at 2 (z := tables_1_2) rfl (List.mem_of_getElem? (i := 94) rfl) rfl
theorem mw_458 : (.methodLink RX12 3 objectInit : Cond) ∈ gwL := gw_at 5 (z := tables_1_5) rfl (List.mem_of_getElem? (i := 61) rfl) rfl
theorem mw_459 : (.fieldLink RX12 28 "SetAgainModel" "text" "[I" : Cond) ∈ gwL := gw_at 5 (z := tables_1_5) rfl (List.mem_of_getElem? (i := 72) rfl) rfl
theorem mw_460 : (.fieldLink RX12 31 "SetAgainModel" "names" "[I" : Cond) ∈ gwL := gw_at 5 (z := tables_1_5) rfl (List.mem_of_getElem? (i := 79) rfl) rfl
theorem mw_461 : (.fieldLink RX12 34 "SetAgainModel" "lossIn" "[I" : Cond) ∈ gwL := gw_at 5 (z := tables_1_5) rfl (List.mem_of_getElem? (i := 80) rfl) rfl
theorem mw_462 : (.fieldLink RX12 37 "SetAgainModel" "leastFrom" "[I" : Cond) ∈ gwL := gw_at 5 (z := tables_1_5) rfl (List.mem_of_getElem? (i := 81) rfl) rfl
theorem mw_463 : (.fieldLink RX12 40 "SetAgainModel" "isIll" "[Z" : Cond) ∈ gwL := gw_at 5 (z := tables_1_5) rfl (List.mem_of_getElem? (i := 88) rfl) rfl
theorem mw_464 : (.fieldLink RX12 44 "SetAgainModel" "stand1" "[I" : Cond) ∈ gwL := gw_at 5 (z := tables_1_5) rfl (List.mem_of_getElem? (i := 89) rfl) rfl
theorem mw_465 : (.fieldLink RX12 47 "SetAgainModel" "standBehind" "[I" : Cond) ∈ gwL := gw_at 5 (z := tables_1_5) rfl (List.mem_of_getElem? (i := 90) rfl) rfl
theorem mw_466 : (.fieldLink RX12 50 "SetAgainModel" "lossAt" "[I" : Cond) ∈ gwL := gw_at 5 (z := tables_1_5) rfl (List.mem_of_getElem? (i := 94) rfl) rfl
theorem mw_467 : (.fieldLink RX12 53 "SetAgainModel" "chairOf" "[I" : Cond) ∈ gwL := gw_at 5 (z := tables_1_5) rfl (List.mem_of_getElem? (i := 95) rfl) rfl
theorem mw_468 : (.fieldLink RX12 56 "SetAgainModel" "bestChair" "[I" : Cond) ∈ gwL := gw_at 5 (z := tables_1_5) rfl (List.mem_of_getElem? (i := 96) rfl) rfl
theorem mw_469 : (.fieldLink RX12 59 "SetAgainModel" "canStand" "[Z" : Cond) ∈ gwL := gw_at 5 (z := tables_1_5) rfl (List.mem_of_getElem? (i := 98) rfl) rfl
theorem mw_470 : (.fieldLink RX12 62 "SetAgainModel" "canGoOn" "[Z" : Cond) ∈ gwL := gw_at 5 (z := tables_1_5) rfl (List.mem_of_getElem? (i := 99) rfl) rfl
theorem mw_471 : (.fieldLink RX12 71 "SetAgainModel" "trace" "[I" : Cond) ∈ gwL := gw_at 5 (z := tables_1_5) rfl (List.mem_of_getElem? (i := 109) rfl) rfl
theorem mw_472 : (.fieldLink RX12 84 "SetAgainModel" "carried" "[J" : Cond) ∈ gwL := gw_at 5 (z := tables_1_5) rfl (List.mem_of_getElem? (i := 116) rfl) rfl
theorem mw_473 : (.fieldLink RX12 87 "SetAgainModel" "textMany" "I" : Cond) ∈ gwL := gw_at 5 (z := tables_1_5) rfl (List.mem_of_getElem? (i := 73) rfl) rfl
theorem mw_474 : (.fieldLink RX12 94 "SetAgainModel" "nearOf" "I" : Cond) ∈ gwL := gw_at 5 (z := tables_1_5) rfl (List.mem_of_getElem? (i := 82) rfl) rfl
theorem mw_475 : (.fieldLink RX12 97 "SetAgainModel" "wilfulOf" "I" : Cond) ∈ gwL := gw_at 5 (z := tables_1_5) rfl (List.mem_of_getElem? (i := 86) rfl) rfl
theorem mw_476 : (.code yX11_sitter cX11_sitter 3 (some .int) : Cond) ∈ gwL := gw_at 2 (z := tables_1_2) rfl (List.mem_of_getElem? (i := 153) rfl) rfl
theorem mw_477 : (.methodLink RL 13 yX11_sitter : Cond) ∈ gwL := gw_at 2 (z := tables_1_2) rfl (List.mem_of_getElem? (i := 150) rfl) rfl
theorem mw_478 : (.instanceMethod yX11_sitter : Cond) ∈ gwL := gw_at 2 (z := tables_1_2) rfl (List.mem_of_getElem? (i := 151) rfl) rfl
theorem mw_479 : (.selects RX11 yX11_sitter yX11_sitter : Cond) ∈ gwL := gw_at 2 (z := tables_1_2) rfl (List.mem_of_getElem? (i := 152) rfl) rfl
theorem mw_480 : (.code yX12_sitter cX12_sitter 3 (some .int) : Cond) ∈ gwL := gw_at 5 (z := tables_1_5) rfl (List.mem_of_getElem? (i := 239) rfl) rfl
theorem mw_481 : (.methodLink RL 17 yX12_sitter : Cond) ∈ gwL := gw_at 5 (z := tables_1_5) rfl (List.mem_of_getElem? (i := 236) rfl) rfl
theorem mw_482 : (.instanceMethod yX12_sitter : Cond) ∈ gwL := gw_at 5 (z := tables_1_5) rfl (List.mem_of_getElem? (i := 237) rfl) rfl
theorem mw_483 : (.selects RX12 yX12_sitter yX12_sitter : Cond) ∈ gwL := gw_at 5 (z := tables_1_5) rfl (List.mem_of_getElem? (i := 238) rfl) rfl
theorem mw_484 : (.code yX11_sitters cX11_sitters 5 (some .int) : Cond) ∈ gwL := gw_at 2 (z := tables_1_2) rfl (List.mem_of_getElem? (i := 175) rfl) rfl
theorem mw_485 : (.methodLink RL 18 yX11_sitters : Cond) ∈ gwL := gw_at 2 (z := tables_1_2) rfl (List.mem_of_getElem? (i := 172) rfl) rfl
theorem mw_486 : (.instanceMethod yX11_sitters : Cond) ∈ gwL := gw_at 2 (z := tables_1_2) rfl (List.mem_of_getElem? (i := 173) rfl) rfl
theorem mw_487 : (.selects RX11 yX11_sitters yX11_sitters : Cond) ∈ gwL := gw_at 2 (z := tables_1_2) rfl (List.mem_of_getElem? (i := 174) rfl) rfl
theorem mw_488 : (.code yX12_sitters cX12_sitters 7 (some .int) : Cond) ∈ gwL := gw_at 6 (z := tables_1_6) rfl (List.mem_of_getElem? (i := 15) rfl) rfl
theorem mw_489 : (.methodLink RL 22 yX12_sitters : Cond) ∈ gwL := gw_at 6 (z := tables_1_6) rfl (List.mem_of_getElem? (i := 12) rfl) rfl
theorem mw_490 : (.instanceMethod yX12_sitters : Cond) ∈ gwL := gw_at 6 (z := tables_1_6) rfl (List.mem_of_getElem? (i := 13) rfl) rfl
theorem mw_491 : (.selects RX12 yX12_sitters yX12_sitters : Cond) ∈ gwL := gw_at 6 (z := tables_1_6) rfl (List.mem_of_getElem? (i := 14) rfl) rfl
theorem mw_492 : (.code yX11_mend cX11_mend 6 (some .int) : Cond) ∈ gwL := gw_at 2 (z := tables_1_2) rfl (List.mem_of_getElem? (i := 194) rfl) rfl
theorem mw_493 : (.methodLink RL 23 yX11_mend : Cond) ∈ gwL := gw_at 2 (z := tables_1_2) rfl (List.mem_of_getElem? (i := 191) rfl) rfl
theorem mw_494 : (.instanceMethod yX11_mend : Cond) ∈ gwL := gw_at 2 (z := tables_1_2) rfl (List.mem_of_getElem? (i := 192) rfl) rfl
theorem mw_495 : (.selects RX11 yX11_mend yX11_mend : Cond) ∈ gwL := gw_at 2 (z := tables_1_2) rfl (List.mem_of_getElem? (i := 193) rfl) rfl
theorem mw_496 : (.code yX12_mend cX12_mend 5 (some .int) : Cond) ∈ gwL := gw_at 6 (z := tables_1_6) rfl (List.mem_of_getElem? (i := 24) rfl) rfl
theorem mw_497 : (.methodLink RL 26 yX12_mend : Cond) ∈ gwL := gw_at 6 (z := tables_1_6) rfl (List.mem_of_getElem? (i := 21) rfl) rfl
theorem mw_498 : (.instanceMethod yX12_mend : Cond) ∈ gwL := gw_at 6 (z := tables_1_6) rfl (List.mem_of_getElem? (i := 22) rfl) rfl
theorem mw_499 : (.selects RX12 yX12_mend yX12_mend : Cond) ∈ gwL := gw_at 6 (z := tables_1_6) rfl (List.mem_of_getElem? (i := 23) rfl) rfl
theorem mw_500 : (.code yX11_of cX11_of 4 (some .int) : Cond) ∈ gwL := gw_at 2 (z := tables_1_2) rfl (List.mem_of_getElem? (i := 217) rfl) rfl
theorem mw_501 : (.methodLink RL 27 yX11_of : Cond) ∈ gwL := gw_at 2 (z := tables_1_2) rfl (List.mem_of_getElem? (i := 214) rfl) rfl
theorem mw_502 : (.instanceMethod yX11_of : Cond) ∈ gwL := gw_at 2 (z := tables_1_2) rfl (List.mem_of_getElem? (i := 215) rfl) rfl
theorem mw_503 : (.selects RX11 yX11_of yX11_of : Cond) ∈ gwL := gw_at 2 (z := tables_1_2) rfl (List.mem_of_getElem? (i := 216) rfl) rfl
theorem mw_504 : (.code yX12_of cX12_of 4 (some .int) : Cond) ∈ gwL := gw_at 6 (z := tables_1_6) rfl (List.mem_of_getElem? (i := 49) rfl) rfl
theorem mw_505 : (.methodLink RL 30 yX12_of : Cond) ∈ gwL := gw_at 6 (z := tables_1_6) rfl (List.mem_of_getElem? (i := 46) rfl) rfl
theorem mw_506 : (.instanceMethod yX12_of : Cond) ∈ gwL := gw_at 6 (z := tables_1_6) rfl (List.mem_of_getElem? (i := 47) rfl) rfl
theorem mw_507 : (.selects RX12 yX12_of yX12_of : Cond) ∈ gwL := gw_at 6 (z := tables_1_6) rfl (List.mem_of_getElem? (i := 48) rfl) rfl
theorem mw_508 : (.code yX11_feed cX11_feed 2 (some .int) : Cond) ∈ gwL := gw_at 2 (z := tables_1_2) rfl (List.mem_of_getElem? (i := 224) rfl) rfl
theorem mw_509 : (.methodLink RL 31 yX11_feed : Cond) ∈ gwL := gw_at 2 (z := tables_1_2) rfl (List.mem_of_getElem? (i := 221) rfl) rfl
theorem mw_510 : (.instanceMethod yX11_feed : Cond) ∈ gwL := gw_at 2 (z := tables_1_2) rfl (List.mem_of_getElem? (i := 222) rfl) rfl
theorem mw_511 : (.selects RX11 yX11_feed yX11_feed : Cond) ∈ gwL := gw_at 2 (z := tables_1_2) rfl (List.mem_of_getElem? (i := 223) rfl) rfl
theorem mw_512 : (.code yX12_feed cX12_feed 2 (some .int) : Cond) ∈ gwL := gw_at 6 (z := tables_1_6) rfl (List.mem_of_getElem? (i := 53) rfl) rfl
theorem mw_513 : (.methodLink RL 35 yX12_feed : Cond) ∈ gwL := gw_at 6 (z := tables_1_6) rfl (List.mem_of_getElem? (i := 50) rfl) rfl
theorem mw_514 : (.instanceMethod yX12_feed : Cond) ∈ gwL := gw_at 6 (z := tables_1_6) rfl (List.mem_of_getElem? (i := 51) rfl) rfl
theorem mw_515 : (.selects RX12 yX12_feed yX12_feed : Cond) ∈ gwL := gw_at 6 (z := tables_1_6) rfl (List.mem_of_getElem? (i := 52) rfl) rfl
theorem mw_516 : (.code yX11_law cX11_law 2 (some .int) : Cond) ∈ gwL := gw_at 2 (z := tables_1_2) rfl (List.mem_of_getElem? (i := 232) rfl) rfl
theorem mw_517 : (.methodLink RL 36 yX11_law : Cond) ∈ gwL := gw_at 2 (z := tables_1_2) rfl (List.mem_of_getElem? (i := 229) rfl) rfl
theorem mw_518 : (.instanceMethod yX11_law : Cond) ∈ gwL := gw_at 2 (z := tables_1_2) rfl (List.mem_of_getElem? (i := 230) rfl) rfl
theorem mw_519 : (.selects RX11 yX11_law yX11_law : Cond) ∈ gwL := gw_at 2 (z := tables_1_2) rfl (List.mem_of_getElem? (i := 231) rfl) rfl
theorem mw_520 : (.code yX12_law cX12_law 4 (some .int) : Cond) ∈ gwL := gw_at 6 (z := tables_1_6) rfl (List.mem_of_getElem? (i := 58) rfl) rfl
theorem mw_521 : (.methodLink RL 40 yX12_law : Cond) ∈ gwL := gw_at 6 (z := tables_1_6) rfl (List.mem_of_getElem? (i := 55) rfl) rfl
theorem mw_522 : (.instanceMethod yX12_law : Cond) ∈ gwL := gw_at 6 (z := tables_1_6) rfl (List.mem_of_getElem? (i := 56) rfl) rfl
theorem mw_523 : (.selects RX12 yX12_law yX12_law : Cond) ∈ gwL := gw_at 6 (z := tables_1_6) rfl (List.mem_of_getElem? (i := 57) rfl) rfl
theorem mw_524 : (.code yX11_loss cX11_loss 4 (some .int) : Cond) ∈ gwL := gw_at 3 (z := tables_1_3) rfl (List.mem_of_getElem? (i := 63) rfl) rfl
theorem mw_525 : (.methodLink RL 41 yX11_loss : Cond) ∈ gwL := gw_at 3 (z := tables_1_3) rfl (List.mem_of_getElem? (i := 60) rfl) rfl
theorem mw_526 : (.instanceMethod yX11_loss : Cond) ∈ gwL := gw_at 3 (z := tables_1_3) rfl (List.mem_of_getElem? (i := 61) rfl) rfl
theorem mw_527 : (.selects RX11 yX11_loss yX11_loss : Cond) ∈ gwL := gw_at 3 (z := tables_1_3) rfl (List.mem_of_getElem? (i := 62) rfl) rfl
theorem mw_528 : (.code yX12_loss cX12_loss 4 (some .int) : Cond) ∈ gwL := gw_at 6 (z := tables_1_6) rfl (List.mem_of_getElem? (i := 105) rfl) rfl
theorem mw_529 : (.methodLink RL 44 yX12_loss : Cond) ∈ gwL := gw_at 6 (z := tables_1_6) rfl (List.mem_of_getElem? (i := 102) rfl) rfl
theorem mw_530 : (.instanceMethod yX12_loss : Cond) ∈ gwL := gw_at 6 (z := tables_1_6) rfl (List.mem_of_getElem? (i := 103) rfl) rfl
theorem mw_531 : (.selects RX12 yX12_loss yX12_loss : Cond) ∈ gwL := gw_at 6 (z := tables_1_6) rfl (List.mem_of_getElem? (i := 104) rfl) rfl
theorem mw_532 : (.code yX11_never cX11_never 5 (some .int) : Cond) ∈ gwL := gw_at 3 (z := tables_1_3) rfl (List.mem_of_getElem? (i := 102) rfl) rfl
theorem mw_533 : (.methodLink RL 45 yX11_never : Cond) ∈ gwL := gw_at 3 (z := tables_1_3) rfl (List.mem_of_getElem? (i := 99) rfl) rfl
theorem mw_534 : (.instanceMethod yX11_never : Cond) ∈ gwL := gw_at 3 (z := tables_1_3) rfl (List.mem_of_getElem? (i := 100) rfl) rfl
theorem mw_535 : (.selects RX11 yX11_never yX11_never : Cond) ∈ gwL := gw_at 3 (z := tables_1_3) rfl (List.mem_of_getElem? (i := 101) rfl) rfl
theorem mw_536 : (.code yX12_never cX12_never 4 (some .int) : Cond) ∈ gwL := gw_at 6 (z := tables_1_6) rfl (List.mem_of_getElem? (i := 120) rfl) rfl
theorem mw_537 : (.methodLink RL 48 yX12_never : Cond) ∈ gwL := gw_at 6 (z := tables_1_6) rfl (List.mem_of_getElem? (i := 117) rfl) rfl
theorem mw_538 : (.instanceMethod yX12_never : Cond) ∈ gwL := gw_at 6 (z := tables_1_6) rfl (List.mem_of_getElem? (i := 118) rfl) rfl
theorem mw_539 : (.selects RX12 yX12_never yX12_never : Cond) ∈ gwL := gw_at 6 (z := tables_1_6) rfl (List.mem_of_getElem? (i := 119) rfl) rfl
theorem mw_540 : (.code yX11_best cX11_best 5 (some .int) : Cond) ∈ gwL := gw_at 3 (z := tables_1_3) rfl (List.mem_of_getElem? (i := 124) rfl) rfl
theorem mw_541 : (.methodLink RL 49 yX11_best : Cond) ∈ gwL := gw_at 3 (z := tables_1_3) rfl (List.mem_of_getElem? (i := 121) rfl) rfl
theorem mw_542 : (.instanceMethod yX11_best : Cond) ∈ gwL := gw_at 3 (z := tables_1_3) rfl (List.mem_of_getElem? (i := 122) rfl) rfl
theorem mw_543 : (.selects RX11 yX11_best yX11_best : Cond) ∈ gwL := gw_at 3 (z := tables_1_3) rfl (List.mem_of_getElem? (i := 123) rfl) rfl
theorem mw_544 : (.code yX12_best cX12_best 8 (some .int) : Cond) ∈ gwL := gw_at 6 (z := tables_1_6) rfl (List.mem_of_getElem? (i := 140) rfl) rfl
theorem mw_545 : (.methodLink RL 52 yX12_best : Cond) ∈ gwL := gw_at 6 (z := tables_1_6) rfl (List.mem_of_getElem? (i := 137) rfl) rfl
theorem mw_546 : (.instanceMethod yX12_best : Cond) ∈ gwL := gw_at 6 (z := tables_1_6) rfl (List.mem_of_getElem? (i := 138) rfl) rfl
theorem mw_547 : (.selects RX12 yX12_best yX12_best : Cond) ∈ gwL := gw_at 6 (z := tables_1_6) rfl (List.mem_of_getElem? (i := 139) rfl) rfl
theorem mw_548 : (.code yX11_middle cX11_middle 4 (some .int) : Cond) ∈ gwL := gw_at 3 (z := tables_1_3) rfl (List.mem_of_getElem? (i := 138) rfl) rfl
theorem mw_549 : (.methodLink RL 53 yX11_middle : Cond) ∈ gwL := gw_at 3 (z := tables_1_3) rfl (List.mem_of_getElem? (i := 135) rfl) rfl
theorem mw_550 : (.instanceMethod yX11_middle : Cond) ∈ gwL := gw_at 3 (z := tables_1_3) rfl (List.mem_of_getElem? (i := 136) rfl) rfl
theorem mw_551 : (.selects RX11 yX11_middle yX11_middle : Cond) ∈ gwL := gw_at 3 (z := tables_1_3) rfl (List.mem_of_getElem? (i := 137) rfl) rfl
theorem mw_552 : (.code yX12_middle cX12_middle 5 (some .int) : Cond) ∈ gwL := gw_at 6 (z := tables_1_6) rfl (List.mem_of_getElem? (i := 153) rfl) rfl
theorem mw_553 : (.methodLink RL 56 yX12_middle : Cond) ∈ gwL := gw_at 6 (z := tables_1_6) rfl (List.mem_of_getElem? (i := 150) rfl) rfl
theorem mw_554 : (.instanceMethod yX12_middle : Cond) ∈ gwL := gw_at 6 (z := tables_1_6) rfl (List.mem_of_getElem? (i := 151) rfl) rfl
theorem mw_555 : (.selects RX12 yX12_middle yX12_middle : Cond) ∈ gwL := gw_at 6 (z := tables_1_6) rfl (List.mem_of_getElem? (i := 152) rfl) rfl
theorem mw_556 : (.code yX11_shifts cX11_shifts 5 (some .int) : Cond) ∈ gwL := gw_at 3 (z := tables_1_3) rfl (List.mem_of_getElem? (i := 151) rfl) rfl
theorem mw_557 : (.methodLink RL 57 yX11_shifts : Cond) ∈ gwL := gw_at 3 (z := tables_1_3) rfl (List.mem_of_getElem? (i := 148) rfl) rfl
theorem mw_558 : (.instanceMethod yX11_shifts : Cond) ∈ gwL := gw_at 3 (z := tables_1_3) rfl (List.mem_of_getElem? (i := 149) rfl) rfl
theorem mw_559 : (.selects RX11 yX11_shifts yX11_shifts : Cond) ∈ gwL := gw_at 3 (z := tables_1_3) rfl (List.mem_of_getElem? (i := 150) rfl) rfl
theorem mw_560 : (.code yX12_shifts cX12_shifts 10 (some .int) : Cond) ∈ gwL := gw_at 6 (z := tables_1_6) rfl (List.mem_of_getElem? (i := 169) rfl) rfl
theorem mw_561 : (.methodLink RL 60 yX12_shifts : Cond) ∈ gwL := gw_at 6 (z := tables_1_6) rfl (List.mem_of_getElem? (i := 166) rfl) rfl
theorem mw_562 : (.instanceMethod yX12_shifts : Cond) ∈ gwL := gw_at 6 (z := tables_1_6) rfl (List.mem_of_getElem? (i := 167) rfl) rfl
theorem mw_563 : (.selects RX12 yX12_shifts yX12_shifts : Cond) ∈ gwL := gw_at 6 (z := tables_1_6) rfl (List.mem_of_getElem? (i := 168) rfl) rfl
theorem mw_564 : (.code yX11_once cX11_once 5 (some .int) : Cond) ∈ gwL := gw_at 3 (z := tables_1_3) rfl (List.mem_of_getElem? (i := 186) rfl) rfl
theorem mw_565 : (.methodLink RL 61 yX11_once : Cond) ∈ gwL := gw_at 3 (z := tables_1_3) rfl (List.mem_of_getElem? (i := 183) rfl) rfl
theorem mw_566 : (.instanceMethod yX11_once : Cond) ∈ gwL := gw_at 3 (z := tables_1_3) rfl (List.mem_of_getElem? (i := 184) rfl) rfl
theorem mw_567 : (.selects RX11 yX11_once yX11_once : Cond) ∈ gwL := gw_at 3 (z := tables_1_3) rfl (List.mem_of_getElem? (i := 185) rfl) rfl
theorem mw_568 : (.code yX12_once cX12_once 13 (some .int) : Cond) ∈ gwL := gw_at 6 (z := tables_1_6) rfl (List.mem_of_getElem? (i := 185) rfl) rfl
theorem mw_569 : (.methodLink RL 64 yX12_once : Cond) ∈ gwL := gw_at 6 (z := tables_1_6) rfl (List.mem_of_getElem? (i := 182) rfl) rfl
theorem mw_570 : (.instanceMethod yX12_once : Cond) ∈ gwL := gw_at 6 (z := tables_1_6) rfl (List.mem_of_getElem? (i := 183) rfl) rfl
theorem mw_571 : (.selects RX12 yX12_once yX12_once : Cond) ∈ gwL := gw_at 6 (z := tables_1_6) rfl (List.mem_of_getElem? (i := 184) rfl) rfl
theorem mw_572 : (.code yX11_week cX11_week 4 (some .int) : Cond) ∈ gwL := gw_at 3 (z := tables_1_3) rfl (List.mem_of_getElem? (i := 194) rfl) rfl
theorem mw_573 : (.methodLink RL 65 yX11_week : Cond) ∈ gwL := gw_at 3 (z := tables_1_3) rfl (List.mem_of_getElem? (i := 191) rfl) rfl
theorem mw_574 : (.instanceMethod yX11_week : Cond) ∈ gwL := gw_at 3 (z := tables_1_3) rfl (List.mem_of_getElem? (i := 192) rfl) rfl
theorem mw_575 : (.selects RX11 yX11_week yX11_week : Cond) ∈ gwL := gw_at 3 (z := tables_1_3) rfl (List.mem_of_getElem? (i := 193) rfl) rfl
theorem mw_576 : (.code yX12_week cX12_week 4 (some .int) : Cond) ∈ gwL := gw_at 6 (z := tables_1_6) rfl (List.mem_of_getElem? (i := 189) rfl) rfl
theorem mw_577 : (.methodLink RL 68 yX12_week : Cond) ∈ gwL := gw_at 6 (z := tables_1_6) rfl (List.mem_of_getElem? (i := 186) rfl) rfl
theorem mw_578 : (.instanceMethod yX12_week : Cond) ∈ gwL := gw_at 6 (z := tables_1_6) rfl (List.mem_of_getElem? (i := 187) rfl) rfl
theorem mw_579 : (.selects RX12 yX12_week yX12_week : Cond) ∈ gwL := gw_at 6 (z := tables_1_6) rfl (List.mem_of_getElem? (i := 188) rfl) rfl
theorem mw_580 : (.code yX11_stands cX11_stands 5 (some .int) : Cond) ∈ gwL := gw_at 4 (z := tables_1_4) rfl (List.mem_of_getElem? (i := 8) rfl) rfl
theorem mw_581 : (.methodLink RL 69 yX11_stands : Cond) ∈ gwL := gw_at 4 (z := tables_1_4) rfl (List.mem_of_getElem? (i := 5) rfl) rfl
theorem mw_582 : (.instanceMethod yX11_stands : Cond) ∈ gwL := gw_at 4 (z := tables_1_4) rfl (List.mem_of_getElem? (i := 6) rfl) rfl
theorem mw_583 : (.selects RX11 yX11_stands yX11_stands : Cond) ∈ gwL := gw_at 4 (z := tables_1_4) rfl (List.mem_of_getElem? (i := 7) rfl) rfl
theorem mw_584 : (.code yX12_stands cX12_stands 4 (some .int) : Cond) ∈ gwL := gw_at 6 (z := tables_1_6) rfl (List.mem_of_getElem? (i := 220) rfl) rfl
theorem mw_585 : (.methodLink RL 72 yX12_stands : Cond) ∈ gwL := gw_at 6 (z := tables_1_6) rfl (List.mem_of_getElem? (i := 217) rfl) rfl
theorem mw_586 : (.instanceMethod yX12_stands : Cond) ∈ gwL := gw_at 6 (z := tables_1_6) rfl (List.mem_of_getElem? (i := 218) rfl) rfl
theorem mw_587 : (.selects RX12 yX12_stands yX12_stands : Cond) ∈ gwL := gw_at 6 (z := tables_1_6) rfl (List.mem_of_getElem? (i := 219) rfl) rfl
theorem mw_588 : (.code yX11_pays cX11_pays 5 (some .int) : Cond) ∈ gwL := gw_at 4 (z := tables_1_4) rfl (List.mem_of_getElem? (i := 12) rfl) rfl
theorem mw_589 : (.methodLink RL 73 yX11_pays : Cond) ∈ gwL := gw_at 4 (z := tables_1_4) rfl (List.mem_of_getElem? (i := 9) rfl) rfl
theorem mw_590 : (.instanceMethod yX11_pays : Cond) ∈ gwL := gw_at 4 (z := tables_1_4) rfl (List.mem_of_getElem? (i := 10) rfl) rfl
theorem mw_591 : (.selects RX11 yX11_pays yX11_pays : Cond) ∈ gwL := gw_at 4 (z := tables_1_4) rfl (List.mem_of_getElem? (i := 11) rfl) rfl
theorem mw_592 : (.code yX12_pays cX12_pays 7 (some .int) : Cond) ∈ gwL := gw_at 6 (z := tables_1_6) rfl (List.mem_of_getElem? (i := 224) rfl) rfl
theorem mw_593 : (.methodLink RL 76 yX12_pays : Cond) ∈ gwL := gw_at 6 (z := tables_1_6) rfl (List.mem_of_getElem? (i := 221) rfl) rfl
theorem mw_594 : (.instanceMethod yX12_pays : Cond) ∈ gwL := gw_at 6 (z := tables_1_6) rfl (List.mem_of_getElem? (i := 222) rfl) rfl
theorem mw_595 : (.selects RX12 yX12_pays yX12_pays : Cond) ∈ gwL := gw_at 6 (z := tables_1_6) rfl (List.mem_of_getElem? (i := 223) rfl) rfl
theorem mw_596 : (.code yX11_memories cX11_memories 5 (some .int) : Cond) ∈ gwL := gw_at 4 (z := tables_1_4) rfl (List.mem_of_getElem? (i := 21) rfl) rfl
theorem mw_597 : (.methodLink RL 77 yX11_memories : Cond) ∈ gwL := gw_at 4 (z := tables_1_4) rfl (List.mem_of_getElem? (i := 18) rfl) rfl
theorem mw_598 : (.instanceMethod yX11_memories : Cond) ∈ gwL := gw_at 4 (z := tables_1_4) rfl (List.mem_of_getElem? (i := 19) rfl) rfl
theorem mw_599 : (.selects RX11 yX11_memories yX11_memories : Cond) ∈ gwL := gw_at 4 (z := tables_1_4) rfl (List.mem_of_getElem? (i := 20) rfl) rfl
theorem mw_600 : (.code yX12_memories cX12_memories 8 (some .int) : Cond) ∈ gwL := gw_at 6 (z := tables_1_6) rfl (List.mem_of_getElem? (i := 228) rfl) rfl
theorem mw_601 : (.methodLink RL 80 yX12_memories : Cond) ∈ gwL := gw_at 6 (z := tables_1_6) rfl (List.mem_of_getElem? (i := 225) rfl) rfl
theorem mw_602 : (.instanceMethod yX12_memories : Cond) ∈ gwL := gw_at 6 (z := tables_1_6) rfl (List.mem_of_getElem? (i := 226) rfl) rfl
theorem mw_603 : (.selects RX12 yX12_memories yX12_memories : Cond) ∈ gwL := gw_at 6 (z := tables_1_6) rfl (List.mem_of_getElem? (i := 227) rfl) rfl
theorem mw_604 : (.code yX11_marked cX11_marked 3 (some .int) : Cond) ∈ gwL := gw_at 4 (z := tables_1_4) rfl (List.mem_of_getElem? (i := 39) rfl) rfl
theorem mw_605 : (.methodLink RL 81 yX11_marked : Cond) ∈ gwL := gw_at 4 (z := tables_1_4) rfl (List.mem_of_getElem? (i := 36) rfl) rfl
theorem mw_606 : (.instanceMethod yX11_marked : Cond) ∈ gwL := gw_at 4 (z := tables_1_4) rfl (List.mem_of_getElem? (i := 37) rfl) rfl
theorem mw_607 : (.selects RX11 yX11_marked yX11_marked : Cond) ∈ gwL := gw_at 4 (z := tables_1_4) rfl (List.mem_of_getElem? (i := 38) rfl) rfl
theorem mw_608 : (.code yX12_marked cX12_marked 4 (some .int) : Cond) ∈ gwL := gw_at 6 (z := tables_1_6) rfl (List.mem_of_getElem? (i := 235) rfl) rfl
theorem mw_609 : (.methodLink RL 84 yX12_marked : Cond) ∈ gwL := gw_at 6 (z := tables_1_6) rfl (List.mem_of_getElem? (i := 232) rfl) rfl
theorem mw_610 : (.instanceMethod yX12_marked : Cond) ∈ gwL := gw_at 6 (z := tables_1_6) rfl (List.mem_of_getElem? (i := 233) rfl) rfl
theorem mw_611 : (.selects RX12 yX12_marked yX12_marked : Cond) ∈ gwL := gw_at 6 (z := tables_1_6) rfl (List.mem_of_getElem? (i := 234) rfl) rfl
theorem mw_612 : (.code yX11_chairs cX11_chairs 6 (some .int) : Cond) ∈ gwL := gw_at 4 (z := tables_1_4) rfl (List.mem_of_getElem? (i := 47) rfl) rfl
theorem mw_613 : (.methodLink RL 85 yX11_chairs : Cond) ∈ gwL := gw_at 4 (z := tables_1_4) rfl (List.mem_of_getElem? (i := 44) rfl) rfl
theorem mw_614 : (.instanceMethod yX11_chairs : Cond) ∈ gwL := gw_at 4 (z := tables_1_4) rfl (List.mem_of_getElem? (i := 45) rfl) rfl
theorem mw_615 : (.selects RX11 yX11_chairs yX11_chairs : Cond) ∈ gwL := gw_at 4 (z := tables_1_4) rfl (List.mem_of_getElem? (i := 46) rfl) rfl
theorem mw_616 : (.code yX12_chairs cX12_chairs 7 (some .int) : Cond) ∈ gwL := gw_at 7 (z := tables_1_7) rfl (List.mem_of_getElem? (i := 4) rfl) rfl
theorem mw_617 : (.methodLink RL 88 yX12_chairs : Cond) ∈ gwL := gw_at 7 (z := tables_1_7) rfl (List.mem_of_getElem? (i := 1) rfl) rfl
theorem mw_618 : (.instanceMethod yX12_chairs : Cond) ∈ gwL := gw_at 7 (z := tables_1_7) rfl (List.mem_of_getElem? (i := 2) rfl) rfl
theorem mw_619 : (.selects RX12 yX12_chairs yX12_chairs : Cond) ∈ gwL := gw_at 7 (z := tables_1_7) rfl (List.mem_of_getElem? (i := 3) rfl) rfl
theorem mw_620 : (.code yX11_wilful cX11_wilful 4 (some .int) : Cond) ∈ gwL := gw_at 4 (z := tables_1_4) rfl (List.mem_of_getElem? (i := 80) rfl) rfl
theorem mw_621 : (.methodLink RL 89 yX11_wilful : Cond) ∈ gwL := gw_at 4 (z := tables_1_4) rfl (List.mem_of_getElem? (i := 77) rfl) rfl
theorem mw_622 : (.instanceMethod yX11_wilful : Cond) ∈ gwL := gw_at 4 (z := tables_1_4) rfl (List.mem_of_getElem? (i := 78) rfl) rfl
theorem mw_623 : (.selects RX11 yX11_wilful yX11_wilful : Cond) ∈ gwL := gw_at 4 (z := tables_1_4) rfl (List.mem_of_getElem? (i := 79) rfl) rfl
theorem mw_624 : (.code yX12_wilful cX12_wilful 6 (some .int) : Cond) ∈ gwL := gw_at 6 (z := tables_1_6) rfl (List.mem_of_getElem? (i := 239) rfl) rfl
theorem mw_625 : (.methodLink RL 92 yX12_wilful : Cond) ∈ gwL := gw_at 6 (z := tables_1_6) rfl (List.mem_of_getElem? (i := 236) rfl) rfl
theorem mw_626 : (.instanceMethod yX12_wilful : Cond) ∈ gwL := gw_at 6 (z := tables_1_6) rfl (List.mem_of_getElem? (i := 237) rfl) rfl
theorem mw_627 : (.selects RX12 yX12_wilful yX12_wilful : Cond) ∈ gwL := gw_at 6 (z := tables_1_6) rfl (List.mem_of_getElem? (i := 238) rfl) rfl
theorem mw_628 : (.code yX11_who cX11_who 5 (some .int) : Cond) ∈ gwL := gw_at 4 (z := tables_1_4) rfl (List.mem_of_getElem? (i := 89) rfl) rfl
theorem mw_629 : (.methodLink RL 93 yX11_who : Cond) ∈ gwL := gw_at 4 (z := tables_1_4) rfl (List.mem_of_getElem? (i := 86) rfl) rfl
theorem mw_630 : (.instanceMethod yX11_who : Cond) ∈ gwL := gw_at 4 (z := tables_1_4) rfl (List.mem_of_getElem? (i := 87) rfl) rfl
theorem mw_631 : (.selects RX11 yX11_who yX11_who : Cond) ∈ gwL := gw_at 4 (z := tables_1_4) rfl (List.mem_of_getElem? (i := 88) rfl) rfl
theorem mw_632 : (.code yX12_who cX12_who 10 (some .int) : Cond) ∈ gwL := gw_at 7 (z := tables_1_7) rfl (List.mem_of_getElem? (i := 20) rfl) rfl
theorem mw_633 : (.methodLink RL 96 yX12_who : Cond) ∈ gwL := gw_at 7 (z := tables_1_7) rfl (List.mem_of_getElem? (i := 17) rfl) rfl
theorem mw_634 : (.instanceMethod yX12_who : Cond) ∈ gwL := gw_at 7 (z := tables_1_7) rfl (List.mem_of_getElem? (i := 18) rfl) rfl
theorem mw_635 : (.selects RX12 yX12_who yX12_who : Cond) ∈ gwL := gw_at 7 (z := tables_1_7) rfl (List.mem_of_getElem? (i := 19) rfl) rfl
theorem mw_636 : (.code yX11_judge cX11_judge 7 (some .int) : Cond) ∈ gwL := gw_at 4 (z := tables_1_4) rfl (List.mem_of_getElem? (i := 128) rfl) rfl
theorem mw_637 : (.methodLink RL 97 yX11_judge : Cond) ∈ gwL := gw_at 4 (z := tables_1_4) rfl (List.mem_of_getElem? (i := 125) rfl) rfl
theorem mw_638 : (.instanceMethod yX11_judge : Cond) ∈ gwL := gw_at 4 (z := tables_1_4) rfl (List.mem_of_getElem? (i := 126) rfl) rfl
theorem mw_639 : (.selects RX11 yX11_judge yX11_judge : Cond) ∈ gwL := gw_at 4 (z := tables_1_4) rfl (List.mem_of_getElem? (i := 127) rfl) rfl
theorem mw_640 : (.code yX12_judge cX12_judge 4 (some .int) : Cond) ∈ gwL := gw_at 7 (z := tables_1_7) rfl (List.mem_of_getElem? (i := 38) rfl) rfl
theorem mw_641 : (.methodLink RL 100 yX12_judge : Cond) ∈ gwL := gw_at 7 (z := tables_1_7) rfl (List.mem_of_getElem? (i := 35) rfl) rfl
theorem mw_642 : (.instanceMethod yX12_judge : Cond) ∈ gwL := gw_at 7 (z := tables_1_7) rfl (List.mem_of_getElem? (i := 36) rfl) rfl
theorem mw_643 : (.selects RX12 yX12_judge yX12_judge : Cond) ∈ gwL := gw_at 7 (z := tables_1_7) rfl (List.mem_of_getElem? (i := 37) rfl) rfl
theorem mw_644 : (.code yX11_drawn cX11_drawn 7 (some .int) : Cond) ∈ gwL := gw_at 4 (z := tables_1_4) rfl (List.mem_of_getElem? (i := 140) rfl) rfl
theorem mw_645 : (.methodLink RL 101 yX11_drawn : Cond) ∈ gwL := gw_at 4 (z := tables_1_4) rfl (List.mem_of_getElem? (i := 137) rfl) rfl
theorem mw_646 : (.instanceMethod yX11_drawn : Cond) ∈ gwL := gw_at 4 (z := tables_1_4) rfl (List.mem_of_getElem? (i := 138) rfl) rfl
theorem mw_647 : (.selects RX11 yX11_drawn yX11_drawn : Cond) ∈ gwL := gw_at 4 (z := tables_1_4) rfl (List.mem_of_getElem? (i := 139) rfl) rfl
theorem mw_648 : (.code yX12_drawn cX12_drawn 11 (some .int) : Cond) ∈ gwL := gw_at 7 (z := tables_1_7) rfl (List.mem_of_getElem? (i := 42) rfl) rfl
theorem mw_649 : (.methodLink RL 105 yX12_drawn : Cond) ∈ gwL := gw_at 7 (z := tables_1_7) rfl (List.mem_of_getElem? (i := 39) rfl) rfl
theorem mw_650 : (.instanceMethod yX12_drawn : Cond) ∈ gwL := gw_at 7 (z := tables_1_7) rfl (List.mem_of_getElem? (i := 40) rfl) rfl
theorem mw_651 : (.selects RX12 yX12_drawn yX12_drawn : Cond) ∈ gwL := gw_at 7 (z := tables_1_7) rfl (List.mem_of_getElem? (i := 41) rfl) rfl
theorem mw_652 : (.code yX11_sit cX11_sit 2 (some .int) : Cond) ∈ gwL := gw_at 4 (z := tables_1_4) rfl (List.mem_of_getElem? (i := 149) rfl) rfl
theorem mw_653 : (.methodLink RL 106 yX11_sit : Cond) ∈ gwL := gw_at 4 (z := tables_1_4) rfl (List.mem_of_getElem? (i := 146) rfl) rfl
theorem mw_654 : (.instanceMethod yX11_sit : Cond) ∈ gwL := gw_at 4 (z := tables_1_4) rfl (List.mem_of_getElem? (i := 147) rfl) rfl
theorem mw_655 : (.selects RX11 yX11_sit yX11_sit : Cond) ∈ gwL := gw_at 4 (z := tables_1_4) rfl (List.mem_of_getElem? (i := 148) rfl) rfl
theorem mw_656 : (.code yX12_sit cX12_sit 3 (some .int) : Cond) ∈ gwL := gw_at 7 (z := tables_1_7) rfl (List.mem_of_getElem? (i := 48) rfl) rfl
theorem mw_657 : (.methodLink RL 109 yX12_sit : Cond) ∈ gwL := gw_at 7 (z := tables_1_7) rfl (List.mem_of_getElem? (i := 45) rfl) rfl
theorem mw_658 : (.instanceMethod yX12_sit : Cond) ∈ gwL := gw_at 7 (z := tables_1_7) rfl (List.mem_of_getElem? (i := 46) rfl) rfl
theorem mw_659 : (.selects RX12 yX12_sit yX12_sit : Cond) ∈ gwL := gw_at 7 (z := tables_1_7) rfl (List.mem_of_getElem? (i := 47) rfl) rfl
theorem mw_660 : (.code yX11_set cX11_set 3 (some .int) : Cond) ∈ gwL := gw_at 4 (z := tables_1_4) rfl (List.mem_of_getElem? (i := 161) rfl) rfl
theorem mw_661 : (.methodLink RL 110 yX11_set : Cond) ∈ gwL := gw_at 4 (z := tables_1_4) rfl (List.mem_of_getElem? (i := 158) rfl) rfl
theorem mw_662 : (.instanceMethod yX11_set : Cond) ∈ gwL := gw_at 4 (z := tables_1_4) rfl (List.mem_of_getElem? (i := 159) rfl) rfl
theorem mw_663 : (.selects RX11 yX11_set yX11_set : Cond) ∈ gwL := gw_at 4 (z := tables_1_4) rfl (List.mem_of_getElem? (i := 160) rfl) rfl
theorem mw_664 : (.code yX12_set cX12_set 4 (some .int) : Cond) ∈ gwL := gw_at 7 (z := tables_1_7) rfl (List.mem_of_getElem? (i := 52) rfl) rfl
theorem mw_665 : (.methodLink RL 113 yX12_set : Cond) ∈ gwL := gw_at 7 (z := tables_1_7) rfl (List.mem_of_getElem? (i := 49) rfl) rfl
theorem mw_666 : (.instanceMethod yX12_set : Cond) ∈ gwL := gw_at 7 (z := tables_1_7) rfl (List.mem_of_getElem? (i := 50) rfl) rfl
theorem mw_667 : (.selects RX12 yX12_set yX12_set : Cond) ∈ gwL := gw_at 7 (z := tables_1_7) rfl (List.mem_of_getElem? (i := 51) rfl) rfl
theorem mw_668 : (.code yX11_night cX11_night 1 (some .int) : Cond) ∈ gwL := gw_at 4 (z := tables_1_4) rfl (List.mem_of_getElem? (i := 170) rfl) rfl
theorem mw_669 : (.methodLink RL 114 yX11_night : Cond) ∈ gwL := gw_at 4 (z := tables_1_4) rfl (List.mem_of_getElem? (i := 167) rfl) rfl
theorem mw_670 : (.instanceMethod yX11_night : Cond) ∈ gwL := gw_at 4 (z := tables_1_4) rfl (List.mem_of_getElem? (i := 168) rfl) rfl
theorem mw_671 : (.selects RX11 yX11_night yX11_night : Cond) ∈ gwL := gw_at 4 (z := tables_1_4) rfl (List.mem_of_getElem? (i := 169) rfl) rfl
theorem mw_672 : (.code yX12_night cX12_night 4 (some .int) : Cond) ∈ gwL := gw_at 7 (z := tables_1_7) rfl (List.mem_of_getElem? (i := 56) rfl) rfl
theorem mw_673 : (.methodLink RL 117 yX12_night : Cond) ∈ gwL := gw_at 7 (z := tables_1_7) rfl (List.mem_of_getElem? (i := 53) rfl) rfl
theorem mw_674 : (.instanceMethod yX12_night : Cond) ∈ gwL := gw_at 7 (z := tables_1_7) rfl (List.mem_of_getElem? (i := 54) rfl) rfl
theorem mw_675 : (.selects RX12 yX12_night yX12_night : Cond) ∈ gwL := gw_at 7 (z := tables_1_7) rfl (List.mem_of_getElem? (i := 55) rfl) rfl
theorem mw_676 : (.code yX11_led cX11_led 2 (some .int) : Cond) ∈ gwL := gw_at 4 (z := tables_1_4) rfl (List.mem_of_getElem? (i := 179) rfl) rfl
theorem mw_677 : (.methodLink RL 118 yX11_led : Cond) ∈ gwL := gw_at 4 (z := tables_1_4) rfl (List.mem_of_getElem? (i := 176) rfl) rfl
theorem mw_678 : (.instanceMethod yX11_led : Cond) ∈ gwL := gw_at 4 (z := tables_1_4) rfl (List.mem_of_getElem? (i := 177) rfl) rfl
theorem mw_679 : (.selects RX11 yX11_led yX11_led : Cond) ∈ gwL := gw_at 4 (z := tables_1_4) rfl (List.mem_of_getElem? (i := 178) rfl) rfl
theorem mw_680 : (.methodLink RL 121 yX12_led : Cond) ∈ gwL := gw_at 7 (z := tables_1_7) rfl (List.mem_of_getElem? (i := 57) rfl) rfl
theorem mw_681 : (.code yX11_image cX11_image 1 (some .int) : Cond) ∈ gwL := gw_at 4 (z := tables_1_4) rfl (List.mem_of_getElem? (i := 183) rfl) rfl
theorem mw_682 : (.methodLink RL 122 yX11_image : Cond) ∈ gwL := gw_at 4 (z := tables_1_4) rfl (List.mem_of_getElem? (i := 180) rfl) rfl
theorem mw_683 : (.instanceMethod yX11_image : Cond) ∈ gwL := gw_at 4 (z := tables_1_4) rfl (List.mem_of_getElem? (i := 181) rfl) rfl
theorem mw_684 : (.selects RX11 yX11_image yX11_image : Cond) ∈ gwL := gw_at 4 (z := tables_1_4) rfl (List.mem_of_getElem? (i := 182) rfl) rfl
theorem mw_685 : (.code yX12_image cX12_image 2 (some .int) : Cond) ∈ gwL := gw_at 7 (z := tables_1_7) rfl (List.mem_of_getElem? (i := 64) rfl) rfl
theorem mw_686 : (.methodLink RL 125 yX12_image : Cond) ∈ gwL := gw_at 7 (z := tables_1_7) rfl (List.mem_of_getElem? (i := 61) rfl) rfl
theorem mw_687 : (.instanceMethod yX12_image : Cond) ∈ gwL := gw_at 7 (z := tables_1_7) rfl (List.mem_of_getElem? (i := 62) rfl) rfl
theorem mw_688 : (.selects RX12 yX12_image yX12_image : Cond) ∈ gwL := gw_at 7 (z := tables_1_7) rfl (List.mem_of_getElem? (i := 63) rfl) rfl
theorem mw_689 : (.code yX11_back cX11_back 1 (some .int) : Cond) ∈ gwL := gw_at 4 (z := tables_1_4) rfl (List.mem_of_getElem? (i := 191) rfl) rfl
theorem mw_690 : (.methodLink RL 126 yX11_back : Cond) ∈ gwL := gw_at 4 (z := tables_1_4) rfl (List.mem_of_getElem? (i := 188) rfl) rfl
theorem mw_691 : (.instanceMethod yX11_back : Cond) ∈ gwL := gw_at 4 (z := tables_1_4) rfl (List.mem_of_getElem? (i := 189) rfl) rfl
theorem mw_692 : (.selects RX11 yX11_back yX11_back : Cond) ∈ gwL := gw_at 4 (z := tables_1_4) rfl (List.mem_of_getElem? (i := 190) rfl) rfl
theorem mw_693 : (.code yX12_back cX12_back 2 (some .int) : Cond) ∈ gwL := gw_at 7 (z := tables_1_7) rfl (List.mem_of_getElem? (i := 69) rfl) rfl
theorem mw_694 : (.methodLink RL 129 yX12_back : Cond) ∈ gwL := gw_at 7 (z := tables_1_7) rfl (List.mem_of_getElem? (i := 66) rfl) rfl
theorem mw_695 : (.instanceMethod yX12_back : Cond) ∈ gwL := gw_at 7 (z := tables_1_7) rfl (List.mem_of_getElem? (i := 67) rfl) rfl
theorem mw_696 : (.selects RX12 yX12_back yX12_back : Cond) ∈ gwL := gw_at 7 (z := tables_1_7) rfl (List.mem_of_getElem? (i := 68) rfl) rfl
theorem mw_697 : (.code yX11_undo cX11_undo 1 (some .int) : Cond) ∈ gwL := gw_at 4 (z := tables_1_4) rfl (List.mem_of_getElem? (i := 199) rfl) rfl
theorem mw_698 : (.methodLink RL 130 yX11_undo : Cond) ∈ gwL := gw_at 4 (z := tables_1_4) rfl (List.mem_of_getElem? (i := 196) rfl) rfl
theorem mw_699 : (.instanceMethod yX11_undo : Cond) ∈ gwL := gw_at 4 (z := tables_1_4) rfl (List.mem_of_getElem? (i := 197) rfl) rfl
theorem mw_700 : (.selects RX11 yX11_undo yX11_undo : Cond) ∈ gwL := gw_at 4 (z := tables_1_4) rfl (List.mem_of_getElem? (i := 198) rfl) rfl
theorem mw_701 : (.code yX12_undo cX12_undo 1 (some .int) : Cond) ∈ gwL := gw_at 5 (z := tables_1_5) rfl (List.mem_of_getElem? (i := 231) rfl) rfl
theorem mw_702 : (.methodLink RL 133 yX12_undo : Cond) ∈ gwL := gw_at 5 (z := tables_1_5) rfl (List.mem_of_getElem? (i := 228) rfl) rfl
theorem mw_703 : (.instanceMethod yX12_undo : Cond) ∈ gwL := gw_at 5 (z := tables_1_5) rfl (List.mem_of_getElem? (i := 229) rfl) rfl
theorem mw_704 : (.selects RX12 yX12_undo yX12_undo : Cond) ∈ gwL := gw_at 5 (z := tables_1_5) rfl (List.mem_of_getElem? (i := 230) rfl) rfl
theorem mw_705 : (.code yX11_redo cX11_redo 1 (some .int) : Cond) ∈ gwL := gw_at 4 (z := tables_1_4) rfl (List.mem_of_getElem? (i := 203) rfl) rfl
theorem mw_706 : (.methodLink RL 134 yX11_redo : Cond) ∈ gwL := gw_at 4 (z := tables_1_4) rfl (List.mem_of_getElem? (i := 200) rfl) rfl
theorem mw_707 : (.instanceMethod yX11_redo : Cond) ∈ gwL := gw_at 4 (z := tables_1_4) rfl (List.mem_of_getElem? (i := 201) rfl) rfl
theorem mw_708 : (.selects RX11 yX11_redo yX11_redo : Cond) ∈ gwL := gw_at 4 (z := tables_1_4) rfl (List.mem_of_getElem? (i := 202) rfl) rfl
theorem mw_709 : (.code yX12_redo cX12_redo 1 (some .int) : Cond) ∈ gwL := gw_at 5 (z := tables_1_5) rfl (List.mem_of_getElem? (i := 235) rfl) rfl
theorem mw_710 : (.methodLink RL 137 yX12_redo : Cond) ∈ gwL := gw_at 5 (z := tables_1_5) rfl (List.mem_of_getElem? (i := 232) rfl) rfl
theorem mw_711 : (.instanceMethod yX12_redo : Cond) ∈ gwL := gw_at 5 (z := tables_1_5) rfl (List.mem_of_getElem? (i := 233) rfl) rfl
theorem mw_712 : (.selects RX12 yX12_redo yX12_redo : Cond) ∈ gwL := gw_at 5 (z := tables_1_5) rfl (List.mem_of_getElem? (i := 234) rfl) rfl
theorem mw_713 : (.code yX11_body cX11_body 2 (some .int) : Cond) ∈ gwL := gw_at 4 (z := tables_1_4) rfl (List.mem_of_getElem? (i := 207) rfl) rfl
theorem mw_714 : (.methodLink RL 138 yX11_body : Cond) ∈ gwL := gw_at 4 (z := tables_1_4) rfl (List.mem_of_getElem? (i := 204) rfl) rfl
theorem mw_715 : (.instanceMethod yX11_body : Cond) ∈ gwL := gw_at 4 (z := tables_1_4) rfl (List.mem_of_getElem? (i := 205) rfl) rfl
theorem mw_716 : (.selects RX11 yX11_body yX11_body : Cond) ∈ gwL := gw_at 4 (z := tables_1_4) rfl (List.mem_of_getElem? (i := 206) rfl) rfl
theorem mw_717 : (.code yX12_body cX12_body 2 (some .int) : Cond) ∈ gwL := gw_at 7 (z := tables_1_7) rfl (List.mem_of_getElem? (i := 73) rfl) rfl
theorem mw_718 : (.methodLink RL 141 yX12_body : Cond) ∈ gwL := gw_at 7 (z := tables_1_7) rfl (List.mem_of_getElem? (i := 70) rfl) rfl
theorem mw_719 : (.instanceMethod yX12_body : Cond) ∈ gwL := gw_at 7 (z := tables_1_7) rfl (List.mem_of_getElem? (i := 71) rfl) rfl
theorem mw_720 : (.selects RX12 yX12_body yX12_body : Cond) ∈ gwL := gw_at 7 (z := tables_1_7) rfl (List.mem_of_getElem? (i := 72) rfl) rfl
theorem mw_721 : (.code yX11_act cX11_act 4 (some .int) : Cond) ∈ gwL := gw_at 4 (z := tables_1_4) rfl (List.mem_of_getElem? (i := 218) rfl) rfl
theorem mw_722 : (.methodLink RL 142 yX11_act : Cond) ∈ gwL := gw_at 4 (z := tables_1_4) rfl (List.mem_of_getElem? (i := 215) rfl) rfl
theorem mw_723 : (.instanceMethod yX11_act : Cond) ∈ gwL := gw_at 4 (z := tables_1_4) rfl (List.mem_of_getElem? (i := 216) rfl) rfl
theorem mw_724 : (.selects RX11 yX11_act yX11_act : Cond) ∈ gwL := gw_at 4 (z := tables_1_4) rfl (List.mem_of_getElem? (i := 217) rfl) rfl
theorem mw_725 : (.code yX12_act cX12_act 4 (some .int) : Cond) ∈ gwL := gw_at 7 (z := tables_1_7) rfl (List.mem_of_getElem? (i := 77) rfl) rfl
theorem mw_726 : (.methodLink RL 145 yX12_act : Cond) ∈ gwL := gw_at 7 (z := tables_1_7) rfl (List.mem_of_getElem? (i := 74) rfl) rfl
theorem mw_727 : (.instanceMethod yX12_act : Cond) ∈ gwL := gw_at 7 (z := tables_1_7) rfl (List.mem_of_getElem? (i := 75) rfl) rfl
theorem mw_728 : (.selects RX12 yX12_act yX12_act : Cond) ∈ gwL := gw_at 7 (z := tables_1_7) rfl (List.mem_of_getElem? (i := 76) rfl) rfl
theorem mw_729 : (.code yX11_trace cX11_trace 2 (some .int) : Cond) ∈ gwL := gw_at 5 (z := tables_1_5) rfl (List.mem_of_getElem? (i := 1) rfl) rfl
theorem mw_730 : (.methodLink RL 146 yX11_trace : Cond) ∈ gwL := gw_at 4 (z := tables_1_4) rfl (List.mem_of_getElem? (i := 238) rfl) rfl
theorem mw_731 : (.instanceMethod yX11_trace : Cond) ∈ gwL := gw_at 4 (z := tables_1_4) rfl (List.mem_of_getElem? (i := 239) rfl) rfl
theorem mw_732 : (.selects RX11 yX11_trace yX11_trace : Cond) ∈ gwL := gw_at 5 (z := tables_1_5) rfl (List.mem_of_getElem? (i := 0) rfl) rfl
theorem mw_733 : (.code yX12_trace cX12_trace 2 (some .int) : Cond) ∈ gwL := gw_at 7 (z := tables_1_7) rfl (List.mem_of_getElem? (i := 105) rfl) rfl
theorem mw_734 : (.methodLink RL 149 yX12_trace : Cond) ∈ gwL := gw_at 7 (z := tables_1_7) rfl (List.mem_of_getElem? (i := 102) rfl) rfl
theorem mw_735 : (.instanceMethod yX12_trace : Cond) ∈ gwL := gw_at 7 (z := tables_1_7) rfl (List.mem_of_getElem? (i := 103) rfl) rfl
theorem mw_736 : (.selects RX12 yX12_trace yX12_trace : Cond) ∈ gwL := gw_at 7 (z := tables_1_7) rfl (List.mem_of_getElem? (i := 104) rfl) rfl
theorem mw_737 : (.code yX11_keep cX11_keep 3 (some .int) : Cond) ∈ gwL := gw_at 5 (z := tables_1_5) rfl (List.mem_of_getElem? (i := 5) rfl) rfl
theorem mw_738 : (.methodLink RL 150 yX11_keep : Cond) ∈ gwL := gw_at 5 (z := tables_1_5) rfl (List.mem_of_getElem? (i := 2) rfl) rfl
theorem mw_739 : (.instanceMethod yX11_keep : Cond) ∈ gwL := gw_at 5 (z := tables_1_5) rfl (List.mem_of_getElem? (i := 3) rfl) rfl
theorem mw_740 : (.selects RX11 yX11_keep yX11_keep : Cond) ∈ gwL := gw_at 5 (z := tables_1_5) rfl (List.mem_of_getElem? (i := 4) rfl) rfl
theorem mw_741 : (.code yX12_keep cX12_keep 3 (some .int) : Cond) ∈ gwL := gw_at 7 (z := tables_1_7) rfl (List.mem_of_getElem? (i := 109) rfl) rfl
theorem mw_742 : (.methodLink RL 153 yX12_keep : Cond) ∈ gwL := gw_at 7 (z := tables_1_7) rfl (List.mem_of_getElem? (i := 106) rfl) rfl
theorem mw_743 : (.instanceMethod yX12_keep : Cond) ∈ gwL := gw_at 7 (z := tables_1_7) rfl (List.mem_of_getElem? (i := 107) rfl) rfl
theorem mw_744 : (.selects RX12 yX12_keep yX12_keep : Cond) ∈ gwL := gw_at 7 (z := tables_1_7) rfl (List.mem_of_getElem? (i := 108) rfl) rfl
theorem mw_745 : (.code yX11_row cX11_row 4 (some .int) : Cond) ∈ gwL := gw_at 5 (z := tables_1_5) rfl (List.mem_of_getElem? (i := 13) rfl) rfl
theorem mw_746 : (.methodLink RL 154 yX11_row : Cond) ∈ gwL := gw_at 5 (z := tables_1_5) rfl (List.mem_of_getElem? (i := 10) rfl) rfl
theorem mw_747 : (.instanceMethod yX11_row : Cond) ∈ gwL := gw_at 5 (z := tables_1_5) rfl (List.mem_of_getElem? (i := 11) rfl) rfl
theorem mw_748 : (.selects RX11 yX11_row yX11_row : Cond) ∈ gwL := gw_at 5 (z := tables_1_5) rfl (List.mem_of_getElem? (i := 12) rfl) rfl
theorem mw_749 : (.code yX12_row cX12_row 5 (some .int) : Cond) ∈ gwL := gw_at 7 (z := tables_1_7) rfl (List.mem_of_getElem? (i := 113) rfl) rfl
theorem mw_750 : (.methodLink RL 157 yX12_row : Cond) ∈ gwL := gw_at 7 (z := tables_1_7) rfl (List.mem_of_getElem? (i := 110) rfl) rfl
theorem mw_751 : (.instanceMethod yX12_row : Cond) ∈ gwL := gw_at 7 (z := tables_1_7) rfl (List.mem_of_getElem? (i := 111) rfl) rfl
theorem mw_752 : (.selects RX12 yX12_row yX12_row : Cond) ∈ gwL := gw_at 7 (z := tables_1_7) rfl (List.mem_of_getElem? (i := 112) rfl) rfl
theorem mw_753 : (.constantLong RL 158 (4294967295) : Cond) ∈ gwL := gw_at 7 (z := tables_1_7) rfl (List.mem_of_getElem? (i := 150) rfl) rfl
theorem mw_754 : (.code yX11_put cX11_put 6 (some .int) : Cond) ∈ gwL := gw_at 5 (z := tables_1_5) rfl (List.mem_of_getElem? (i := 21) rfl) rfl
theorem mw_755 : (.methodLink RL 160 yX11_put : Cond) ∈ gwL := gw_at 5 (z := tables_1_5) rfl (List.mem_of_getElem? (i := 18) rfl) rfl
theorem mw_756 : (.instanceMethod yX11_put : Cond) ∈ gwL := gw_at 5 (z := tables_1_5) rfl (List.mem_of_getElem? (i := 19) rfl) rfl
theorem mw_757 : (.selects RX11 yX11_put yX11_put : Cond) ∈ gwL := gw_at 5 (z := tables_1_5) rfl (List.mem_of_getElem? (i := 20) rfl) rfl
theorem mw_758 : (.code yX12_put cX12_put 6 (some .int) : Cond) ∈ gwL := gw_at 7 (z := tables_1_7) rfl (List.mem_of_getElem? (i := 118) rfl) rfl
theorem mw_759 : (.methodLink RL 164 yX12_put : Cond) ∈ gwL := gw_at 7 (z := tables_1_7) rfl (List.mem_of_getElem? (i := 115) rfl) rfl
theorem mw_760 : (.instanceMethod yX12_put : Cond) ∈ gwL := gw_at 7 (z := tables_1_7) rfl (List.mem_of_getElem? (i := 116) rfl) rfl
theorem mw_761 : (.selects RX12 yX12_put yX12_put : Cond) ∈ gwL := gw_at 7 (z := tables_1_7) rfl (List.mem_of_getElem? (i := 117) rfl) rfl
theorem mw_762 : (.code yX11_element cX11_element 3 (some .long) : Cond) ∈ gwL := gw_at 5 (z := tables_1_5) rfl (List.mem_of_getElem? (i := 37) rfl) rfl
theorem mw_763 : (.methodLink RL 165 yX11_element : Cond) ∈ gwL := gw_at 5 (z := tables_1_5) rfl (List.mem_of_getElem? (i := 34) rfl) rfl
theorem mw_764 : (.instanceMethod yX11_element : Cond) ∈ gwL := gw_at 5 (z := tables_1_5) rfl (List.mem_of_getElem? (i := 35) rfl) rfl
theorem mw_765 : (.selects RX11 yX11_element yX11_element : Cond) ∈ gwL := gw_at 5 (z := tables_1_5) rfl (List.mem_of_getElem? (i := 36) rfl) rfl
theorem mw_766 : (.code yX12_element cX12_element 3 (some .long) : Cond) ∈ gwL := gw_at 7 (z := tables_1_7) rfl (List.mem_of_getElem? (i := 129) rfl) rfl
theorem mw_767 : (.methodLink RL 169 yX12_element : Cond) ∈ gwL := gw_at 7 (z := tables_1_7) rfl (List.mem_of_getElem? (i := 126) rfl) rfl
theorem mw_768 : (.instanceMethod yX12_element : Cond) ∈ gwL := gw_at 7 (z := tables_1_7) rfl (List.mem_of_getElem? (i := 127) rfl) rfl
theorem mw_769 : (.selects RX12 yX12_element yX12_element : Cond) ∈ gwL := gw_at 7 (z := tables_1_7) rfl (List.mem_of_getElem? (i := 128) rfl) rfl
theorem mw_770 : (.code yX11_shift cX11_shift 8 (some .int) : Cond) ∈ gwL := gw_at 5 (z := tables_1_5) rfl (List.mem_of_getElem? (i := 42) rfl) rfl
theorem mw_771 : (.methodLink RL 170 yX11_shift : Cond) ∈ gwL := gw_at 5 (z := tables_1_5) rfl (List.mem_of_getElem? (i := 39) rfl) rfl
theorem mw_772 : (.instanceMethod yX11_shift : Cond) ∈ gwL := gw_at 5 (z := tables_1_5) rfl (List.mem_of_getElem? (i := 40) rfl) rfl
theorem mw_773 : (.selects RX11 yX11_shift yX11_shift : Cond) ∈ gwL := gw_at 5 (z := tables_1_5) rfl (List.mem_of_getElem? (i := 41) rfl) rfl
theorem mw_774 : (.code yX12_shift cX12_shift 7 (some .int) : Cond) ∈ gwL := gw_at 7 (z := tables_1_7) rfl (List.mem_of_getElem? (i := 134) rfl) rfl
theorem mw_775 : (.methodLink RL 174 yX12_shift : Cond) ∈ gwL := gw_at 7 (z := tables_1_7) rfl (List.mem_of_getElem? (i := 131) rfl) rfl
theorem mw_776 : (.instanceMethod yX12_shift : Cond) ∈ gwL := gw_at 7 (z := tables_1_7) rfl (List.mem_of_getElem? (i := 132) rfl) rfl
theorem mw_777 : (.selects RX12 yX12_shift yX12_shift : Cond) ∈ gwL := gw_at 7 (z := tables_1_7) rfl (List.mem_of_getElem? (i := 133) rfl) rfl
theorem mw_778 : (.code yX11_taken cX11_taken 4 (some .int) : Cond) ∈ gwL := gw_at 5 (z := tables_1_5) rfl (List.mem_of_getElem? (i := 47) rfl) rfl
theorem mw_779 : (.methodLink RL 175 yX11_taken : Cond) ∈ gwL := gw_at 5 (z := tables_1_5) rfl (List.mem_of_getElem? (i := 44) rfl) rfl
theorem mw_780 : (.instanceMethod yX11_taken : Cond) ∈ gwL := gw_at 5 (z := tables_1_5) rfl (List.mem_of_getElem? (i := 45) rfl) rfl
theorem mw_781 : (.selects RX11 yX11_taken yX11_taken : Cond) ∈ gwL := gw_at 5 (z := tables_1_5) rfl (List.mem_of_getElem? (i := 46) rfl) rfl
theorem mw_782 : (.code yX12_taken cX12_taken 4 (some .int) : Cond) ∈ gwL := gw_at 7 (z := tables_1_7) rfl (List.mem_of_getElem? (i := 138) rfl) rfl
theorem mw_783 : (.methodLink RL 178 yX12_taken : Cond) ∈ gwL := gw_at 7 (z := tables_1_7) rfl (List.mem_of_getElem? (i := 135) rfl) rfl
theorem mw_784 : (.instanceMethod yX12_taken : Cond) ∈ gwL := gw_at 7 (z := tables_1_7) rfl (List.mem_of_getElem? (i := 136) rfl) rfl
theorem mw_785 : (.selects RX12 yX12_taken yX12_taken : Cond) ∈ gwL := gw_at 7 (z := tables_1_7) rfl (List.mem_of_getElem? (i := 137) rfl) rfl
theorem mw_786 : (.code yX11_count cX11_count 2 (some .int) : Cond) ∈ gwL := gw_at 5 (z := tables_1_5) rfl (List.mem_of_getElem? (i := 55) rfl) rfl
theorem mw_787 : (.methodLink RL 179 yX11_count : Cond) ∈ gwL := gw_at 5 (z := tables_1_5) rfl (List.mem_of_getElem? (i := 52) rfl) rfl
theorem mw_788 : (.instanceMethod yX11_count : Cond) ∈ gwL := gw_at 5 (z := tables_1_5) rfl (List.mem_of_getElem? (i := 53) rfl) rfl
theorem mw_789 : (.selects RX11 yX11_count yX11_count : Cond) ∈ gwL := gw_at 5 (z := tables_1_5) rfl (List.mem_of_getElem? (i := 54) rfl) rfl
theorem mw_790 : (.code yX12_count cX12_count 2 (some .int) : Cond) ∈ gwL := gw_at 7 (z := tables_1_7) rfl (List.mem_of_getElem? (i := 149) rfl) rfl
theorem mw_791 : (.methodLink RL 182 yX12_count : Cond) ∈ gwL := gw_at 7 (z := tables_1_7) rfl (List.mem_of_getElem? (i := 146) rfl) rfl
theorem mw_792 : (.instanceMethod yX12_count : Cond) ∈ gwL := gw_at 7 (z := tables_1_7) rfl (List.mem_of_getElem? (i := 147) rfl) rfl
theorem mw_793 : (.selects RX12 yX12_count yX12_count : Cond) ∈ gwL := gw_at 7 (z := tables_1_7) rfl (List.mem_of_getElem? (i := 148) rfl) rfl
theorem mw_794 : (.classLink RL 7 RX11 : Cond) ∈ gwL := gw_at 1 (z := tables_1_1) rfl (List.mem_of_getElem? (i := 17) rfl) rfl
theorem mw_795 : (.instantiable RX11 10 : Cond) ∈ gwL := gw_at 1 (z := tables_1_1) rfl (List.mem_of_getElem? (i := 18) rfl) rfl
theorem mw_796 : (.code yX11_init cX11_init 2 none : Cond) ∈ gwL := gw_at 1 (z := tables_1_1) rfl (List.mem_of_getElem? (i := 21) rfl) rfl
theorem mw_797 : (.methodLink RL 9 yX11_init : Cond) ∈ gwL := gw_at 1 (z := tables_1_1) rfl (List.mem_of_getElem? (i := 19) rfl) rfl
theorem mw_798 : (.instanceMethod yX11_init : Cond) ∈ gwL := gw_at 1 (z := tables_1_1) rfl (List.mem_of_getElem? (i := 20) rfl) rfl
theorem mw_799 : (.classLink RL 10 RX12 : Cond) ∈ gwL := gw_at 5 (z := tables_1_5) rfl (List.mem_of_getElem? (i := 56) rfl) rfl
theorem mw_800 : (.instantiable RX12 55 : Cond) ∈ gwL := gw_at 5 (z := tables_1_5) rfl (List.mem_of_getElem? (i := 57) rfl) rfl
theorem mw_801 : (.code yX12_init cX12_init 2 none : Cond) ∈ gwL := gw_at 5 (z := tables_1_5) rfl (List.mem_of_getElem? (i := 60) rfl) rfl
theorem mw_802 : (.methodLink RL 12 yX12_init : Cond) ∈ gwL := gw_at 5 (z := tables_1_5) rfl (List.mem_of_getElem? (i := 58) rfl) rfl
theorem mw_803 : (.instanceMethod yX12_init : Cond) ∈ gwL := gw_at 5 (z := tables_1_5) rfl (List.mem_of_getElem? (i := 59) rfl) rfl
abbrev gwX0_becomes : List Cond := Cond.code yX0_becomes cX0_becomes 3 none :: gwL
abbrev gwX0_comes : List Cond := Cond.code yX0_comes cX0_comes 6 (some .int) :: gwL
abbrev gwX0_forget : List Cond := Cond.code yX0_forget cX0_forget 4 none :: gwL
abbrev gwX0_has : List Cond := Cond.code yX0_has cX0_has 2 (some .boolean) :: gwL
abbrev gwX0_init : List Cond := Cond.code yX0_init cX0_init 2 none :: gwL
abbrev gwX0_placeOf : List Cond := Cond.code yX0_placeOf cX0_placeOf 3 (some .int) :: gwL
abbrev gwX0_slipped : List Cond := Cond.code yX0_slipped cX0_slipped 3 (some .int) :: gwL
abbrev gwX10_init : List Cond := Cond.code yX10_init cX10_init 1 none :: gwL
abbrev gwX11_act : List Cond := Cond.code yX11_act cX11_act 4 (some .int) :: gwL
abbrev gwX11_back : List Cond := Cond.code yX11_back cX11_back 1 (some .int) :: gwL
abbrev gwX11_best : List Cond := Cond.code yX11_best cX11_best 5 (some .int) :: gwL
abbrev gwX11_body : List Cond := Cond.code yX11_body cX11_body 2 (some .int) :: gwL
abbrev gwX11_chairs : List Cond := Cond.code yX11_chairs cX11_chairs 6 (some .int) :: gwL
abbrev gwX11_count : List Cond := Cond.code yX11_count cX11_count 2 (some .int) :: gwL
abbrev gwX11_drawn : List Cond := Cond.code yX11_drawn cX11_drawn 7 (some .int) :: gwL
abbrev gwX11_element : List Cond := Cond.code yX11_element cX11_element 3 (some .long) :: gwL
abbrev gwX11_feed : List Cond := Cond.code yX11_feed cX11_feed 2 (some .int) :: gwL
abbrev gwX11_fits : List Cond := Cond.code yX11_fits cX11_fits 2 (some .boolean) :: gwL
abbrev gwX11_image : List Cond := Cond.code yX11_image cX11_image 1 (some .int) :: gwL
abbrev gwX11_init : List Cond := Cond.code yX11_init cX11_init 2 none :: gwL
abbrev gwX11_isKind : List Cond := Cond.code yX11_isKind cX11_isKind 1 (some .boolean) :: gwL
abbrev gwX11_isPart : List Cond := Cond.code yX11_isPart cX11_isPart 1 (some .boolean) :: gwL
abbrev gwX11_isSetting : List Cond := Cond.code yX11_isSetting cX11_isSetting 1 (some .boolean) :: gwL
abbrev gwX11_isShelf : List Cond := Cond.code yX11_isShelf cX11_isShelf 1 (some .boolean) :: gwL
abbrev gwX11_judge : List Cond := Cond.code yX11_judge cX11_judge 7 (some .int) :: gwL
abbrev gwX11_keep : List Cond := Cond.code yX11_keep cX11_keep 3 (some .int) :: gwL
abbrev gwX11_law : List Cond := Cond.code yX11_law cX11_law 2 (some .int) :: gwL
abbrev gwX11_led : List Cond := Cond.code yX11_led cX11_led 2 (some .int) :: gwL
abbrev gwX11_loss : List Cond := Cond.code yX11_loss cX11_loss 4 (some .int) :: gwL
abbrev gwX11_marked : List Cond := Cond.code yX11_marked cX11_marked 3 (some .int) :: gwL
abbrev gwX11_memories : List Cond := Cond.code yX11_memories cX11_memories 5 (some .int) :: gwL
abbrev gwX11_mend : List Cond := Cond.code yX11_mend cX11_mend 6 (some .int) :: gwL
abbrev gwX11_middle : List Cond := Cond.code yX11_middle cX11_middle 4 (some .int) :: gwL
abbrev gwX11_never : List Cond := Cond.code yX11_never cX11_never 5 (some .int) :: gwL
abbrev gwX11_night : List Cond := Cond.code yX11_night cX11_night 1 (some .int) :: gwL
abbrev gwX11_of : List Cond := Cond.code yX11_of cX11_of 4 (some .int) :: gwL
abbrev gwX11_once : List Cond := Cond.code yX11_once cX11_once 5 (some .int) :: gwL
abbrev gwX11_pays : List Cond := Cond.code yX11_pays cX11_pays 5 (some .int) :: gwL
abbrev gwX11_put : List Cond := Cond.code yX11_put cX11_put 6 (some .int) :: gwL
abbrev gwX11_readWeek : List Cond := Cond.code yX11_readWeek cX11_readWeek 3 (some .int) :: gwL
abbrev gwX11_redo : List Cond := Cond.code yX11_redo cX11_redo 1 (some .int) :: gwL
abbrev gwX11_refusalAt : List Cond := Cond.code yX11_refusalAt cX11_refusalAt 4 (some .int) :: gwL
abbrev gwX11_refusalOf : List Cond := Cond.code yX11_refusalOf cX11_refusalOf 2 (some .int) :: gwL
abbrev gwX11_row : List Cond := Cond.code yX11_row cX11_row 4 (some .int) :: gwL
abbrev gwX11_set : List Cond := Cond.code yX11_set cX11_set 3 (some .int) :: gwL
abbrev gwX11_shift : List Cond := Cond.code yX11_shift cX11_shift 8 (some .int) :: gwL
abbrev gwX11_shifts : List Cond := Cond.code yX11_shifts cX11_shifts 5 (some .int) :: gwL
abbrev gwX11_sit : List Cond := Cond.code yX11_sit cX11_sit 2 (some .int) :: gwL
abbrev gwX11_sitter : List Cond := Cond.code yX11_sitter cX11_sitter 3 (some .int) :: gwL
abbrev gwX11_sitters : List Cond := Cond.code yX11_sitters cX11_sitters 5 (some .int) :: gwL
abbrev gwX11_stands : List Cond := Cond.code yX11_stands cX11_stands 5 (some .int) :: gwL
abbrev gwX11_taken : List Cond := Cond.code yX11_taken cX11_taken 4 (some .int) :: gwL
abbrev gwX11_trace : List Cond := Cond.code yX11_trace cX11_trace 2 (some .int) :: gwL
abbrev gwX11_undo : List Cond := Cond.code yX11_undo cX11_undo 1 (some .int) :: gwL
abbrev gwX11_week : List Cond := Cond.code yX11_week cX11_week 4 (some .int) :: gwL
abbrev gwX11_who : List Cond := Cond.code yX11_who cX11_who 5 (some .int) :: gwL
abbrev gwX11_wilful : List Cond := Cond.code yX11_wilful cX11_wilful 4 (some .int) :: gwL
abbrev gwX12_act : List Cond := Cond.code yX12_act cX12_act 4 (some .int) :: gwL
abbrev gwX12_adds : List Cond := Cond.code yX12_adds cX12_adds 6 none :: gwL
abbrev gwX12_back : List Cond := Cond.code yX12_back cX12_back 2 (some .int) :: gwL
abbrev gwX12_becomes : List Cond := Cond.code yX12_becomes cX12_becomes 5 (some .int) :: gwL
abbrev gwX12_best : List Cond := Cond.code yX12_best cX12_best 8 (some .int) :: gwL
abbrev gwX12_body : List Cond := Cond.code yX12_body cX12_body 2 (some .int) :: gwL
abbrev gwX12_both : List Cond := Cond.code yX12_both cX12_both 3 (some .int) :: gwL
abbrev gwX12_byteAt : List Cond := Cond.code yX12_byteAt cX12_byteAt 1 (some .int) :: gwL
abbrev gwX12_bytesIs : List Cond := Cond.code yX12_bytesIs cX12_bytesIs 2 (some .int) :: gwL
abbrev gwX12_chairs : List Cond := Cond.code yX12_chairs cX12_chairs 7 (some .int) :: gwL
abbrev gwX12_compared : List Cond := Cond.code yX12_compared cX12_compared 4 (some .int) :: gwL
abbrev gwX12_count : List Cond := Cond.code yX12_count cX12_count 2 (some .int) :: gwL
abbrev gwX12_drawn : List Cond := Cond.code yX12_drawn cX12_drawn 11 (some .int) :: gwL
abbrev gwX12_either : List Cond := Cond.code yX12_either cX12_either 3 (some .int) :: gwL
abbrev gwX12_element : List Cond := Cond.code yX12_element cX12_element 3 (some .long) :: gwL
abbrev gwX12_feed : List Cond := Cond.code yX12_feed cX12_feed 2 (some .int) :: gwL
abbrev gwX12_image : List Cond := Cond.code yX12_image cX12_image 2 (some .int) :: gwL
abbrev gwX12_init : List Cond := Cond.code yX12_init cX12_init 2 none :: gwL
abbrev gwX12_isBody : List Cond := Cond.code yX12_isBody cX12_isBody 2 (some .boolean) :: gwL
abbrev gwX12_isPart : List Cond := Cond.code yX12_isPart cX12_isPart 1 (some .boolean) :: gwL
abbrev gwX12_isSetting : List Cond := Cond.code yX12_isSetting cX12_isSetting 2 (some .boolean) :: gwL
abbrev gwX12_isShelf : List Cond := Cond.code yX12_isShelf cX12_isShelf 1 (some .boolean) :: gwL
abbrev gwX12_isSitter : List Cond := Cond.code yX12_isSitter cX12_isSitter 3 (some .boolean) :: gwL
abbrev gwX12_judge : List Cond := Cond.code yX12_judge cX12_judge 4 (some .int) :: gwL
abbrev gwX12_keep : List Cond := Cond.code yX12_keep cX12_keep 3 (some .int) :: gwL
abbrev gwX12_law : List Cond := Cond.code yX12_law cX12_law 4 (some .int) :: gwL
abbrev gwX12_led : List Cond := Cond.code yX12_led cX12_led 2 (some .int) :: gwL
abbrev gwX12_loss : List Cond := Cond.code yX12_loss cX12_loss 4 (some .int) :: gwL
abbrev gwX12_marked : List Cond := Cond.code yX12_marked cX12_marked 4 (some .int) :: gwL
abbrev gwX12_memories : List Cond := Cond.code yX12_memories cX12_memories 8 (some .int) :: gwL
abbrev gwX12_mend : List Cond := Cond.code yX12_mend cX12_mend 5 (some .int) :: gwL
abbrev gwX12_middle : List Cond := Cond.code yX12_middle cX12_middle 5 (some .int) :: gwL
abbrev gwX12_mostOf : List Cond := Cond.code yX12_mostOf cX12_mostOf 1 (some .int) :: gwL
abbrev gwX12_nameOf : List Cond := Cond.code yX12_nameOf cX12_nameOf 1 (some .int) :: gwL
abbrev gwX12_never : List Cond := Cond.code yX12_never cX12_never 4 (some .int) :: gwL
abbrev gwX12_night : List Cond := Cond.code yX12_night cX12_night 4 (some .int) :: gwL
abbrev gwX12_of : List Cond := Cond.code yX12_of cX12_of 4 (some .int) :: gwL
abbrev gwX12_once : List Cond := Cond.code yX12_once cX12_once 13 (some .int) :: gwL
abbrev gwX12_one : List Cond := Cond.code yX12_one cX12_one 5 (some .int) :: gwL
abbrev gwX12_pays : List Cond := Cond.code yX12_pays cX12_pays 7 (some .int) :: gwL
abbrev gwX12_placeOf : List Cond := Cond.code yX12_placeOf cX12_placeOf 3 (some .int) :: gwL
abbrev gwX12_product : List Cond := Cond.code yX12_product cX12_product 4 (some .int) :: gwL
abbrev gwX12_put : List Cond := Cond.code yX12_put cX12_put 6 (some .int) :: gwL
abbrev gwX12_redo : List Cond := Cond.code yX12_redo cX12_redo 1 (some .int) :: gwL
abbrev gwX12_refusal : List Cond := Cond.code yX12_refusal cX12_refusal 3 (some .int) :: gwL
abbrev gwX12_row : List Cond := Cond.code yX12_row cX12_row 5 (some .int) :: gwL
abbrev gwX12_set : List Cond := Cond.code yX12_set cX12_set 4 (some .int) :: gwL
abbrev gwX12_shift : List Cond := Cond.code yX12_shift cX12_shift 7 (some .int) :: gwL
abbrev gwX12_shifts : List Cond := Cond.code yX12_shifts cX12_shifts 10 (some .int) :: gwL
abbrev gwX12_sit : List Cond := Cond.code yX12_sit cX12_sit 3 (some .int) :: gwL
abbrev gwX12_sitter : List Cond := Cond.code yX12_sitter cX12_sitter 3 (some .int) :: gwL
abbrev gwX12_sitters : List Cond := Cond.code yX12_sitters cX12_sitters 7 (some .int) :: gwL
abbrev gwX12_sizeOf : List Cond := Cond.code yX12_sizeOf cX12_sizeOf 1 (some .int) :: gwL
abbrev gwX12_slipped : List Cond := Cond.code yX12_slipped cX12_slipped 4 (some .int) :: gwL
abbrev gwX12_stands : List Cond := Cond.code yX12_stands cX12_stands 4 (some .int) :: gwL
abbrev gwX12_sums : List Cond := Cond.code yX12_sums cX12_sums 4 (some .int) :: gwL
abbrev gwX12_taken : List Cond := Cond.code yX12_taken cX12_taken 4 (some .int) :: gwL
abbrev gwX12_takes : List Cond := Cond.code yX12_takes cX12_takes 2 (some .boolean) :: gwL
abbrev gwX12_trace : List Cond := Cond.code yX12_trace cX12_trace 2 (some .int) :: gwL
abbrev gwX12_undo : List Cond := Cond.code yX12_undo cX12_undo 1 (some .int) :: gwL
abbrev gwX12_week : List Cond := Cond.code yX12_week cX12_week 4 (some .int) :: gwL
abbrev gwX12_who : List Cond := Cond.code yX12_who cX12_who 10 (some .int) :: gwL
abbrev gwX12_wilful : List Cond := Cond.code yX12_wilful cX12_wilful 6 (some .int) :: gwL
abbrev gwX12_within : List Cond := Cond.code yX12_within cX12_within 6 (some .boolean) :: gwL
abbrev gwX12_workOut : List Cond := Cond.code yX12_workOut cX12_workOut 8 (some .int) :: gwL
abbrev gwX12_wrong : List Cond := Cond.code yX12_wrong cX12_wrong 1 (some .int) :: gwL
abbrev gwX1_comes : List Cond := Cond.code yX1_comes cX1_comes 4 none :: gwL
abbrev gwX1_init : List Cond := Cond.code yX1_init cX1_init 1 none :: gwL
abbrev gwX2_allSlip : List Cond := Cond.code yX2_allSlip cX2_allSlip 4 (some .int) :: gwL
abbrev gwX2_init : List Cond := Cond.code yX2_init cX2_init 3 none :: gwL
abbrev gwX2_keepImage : List Cond := Cond.code yX2_keepImage cX2_keepImage 1 (some .int) :: gwL
abbrev gwX2_layBack : List Cond := Cond.code yX2_layBack cX2_layBack 1 (some .int) :: gwL
abbrev gwX2_turns : List Cond := Cond.code yX2_turns cX2_turns 4 (some .int) :: gwL
abbrev gwX3_acts : List Cond := Cond.code yX3_acts cX3_acts 4 (some .int) :: gwL
abbrev gwX3_comes : List Cond := Cond.code yX3_comes cX3_comes 2 (some .int) :: gwL
abbrev gwX3_init : List Cond := Cond.code yX3_init cX3_init 1 none :: gwL
abbrev gwX4_init : List Cond := Cond.code yX4_init cX4_init 3 none :: gwL
abbrev gwX5_both : List Cond := Cond.code yX5_both cX5_both 3 none :: gwL
abbrev gwX5_compared : List Cond := Cond.code yX5_compared cX5_compared 3 none :: gwL
abbrev gwX5_either : List Cond := Cond.code yX5_either cX5_either 3 none :: gwL
abbrev gwX5_fail : List Cond := Cond.code yX5_fail cX5_fail 1 none :: gwL
abbrev gwX5_init : List Cond := Cond.code yX5_init cX5_init 1 none :: gwL
abbrev gwX5_isDigit : List Cond := Cond.code yX5_isDigit cX5_isDigit 1 (some .boolean) :: gwL
abbrev gwX5_isName : List Cond := Cond.code yX5_isName cX5_isName 1 (some .boolean) :: gwL
abbrev gwX5_isRead : List Cond := Cond.code yX5_isRead cX5_isRead 1 (some .int) :: gwL
abbrev gwX5_line : List Cond := Cond.code yX5_line cX5_line 1 none :: gwL
abbrev gwX5_lines : List Cond := Cond.code yX5_lines cX5_lines 2 none :: gwL
abbrev gwX5_next : List Cond := Cond.code yX5_next cX5_next 1 (some .int) :: gwL
abbrev gwX5_operand : List Cond := Cond.code yX5_operand cX5_operand 3 none :: gwL
abbrev gwX5_product : List Cond := Cond.code yX5_product cX5_product 4 none :: gwL
abbrev gwX5_sum : List Cond := Cond.code yX5_sum cX5_sum 4 none :: gwL
abbrev gwX5_takes : List Cond := Cond.code yX5_takes cX5_takes 2 (some .int) :: gwL
abbrev gwX5_write : List Cond := Cond.code yX5_write cX5_write 2 none :: gwL
abbrev gwX6_init : List Cond := Cond.code yX6_init cX6_init 2 none :: gwL
abbrev gwX7_init : List Cond := Cond.code yX7_init cX7_init 1 none :: gwL
abbrev gwX7_takesDesk : List Cond := Cond.code yX7_takesDesk cX7_takesDesk 2 none :: gwL
abbrev gwX7_takesRow : List Cond := Cond.code yX7_takesRow cX7_takesRow 4 none :: gwL
abbrev gwX8_init : List Cond := Cond.code yX8_init cX8_init 3 none :: gwL
abbrev gwX9_init : List Cond := Cond.code yX9_init cX9_init 3 none :: gwL
