def sgS : Nat → List Cond := fun k => match k with | 0 => k2_sels lw_privs | 1 => tables_1_1 | 2 => tables_1_2 | 3 => tables_1_3 | 4 => tables_1_4 | 5 => tables_1_5 | 6 => tables_1_6 | 7 => tables_1_7 | _ => []
theorem sgS_in : ∀ k : Nat, ∀ w ∈ sgS k, w ∈ lw_tbl := by
  intro k w hw
  unfold lw_tbl tables_1
  simp only [List.mem_append]
  match k, hw with
  | 0, hw => exact Or.inl hw
  | 1, hw => exact Or.inr (Or.inl hw)
  | 2, hw => exact Or.inr (Or.inr (Or.inl hw))
  | 3, hw => exact Or.inr (Or.inr (Or.inr (Or.inl hw)))
  | 4, hw => exact Or.inr (Or.inr (Or.inr (Or.inr (Or.inl hw))))
  | 5, hw => exact Or.inr (Or.inr (Or.inr (Or.inr (Or.inr (Or.inl hw)))))
  | 6, hw => exact Or.inr (Or.inr (Or.inr (Or.inr (Or.inr (Or.inr (Or.inl hw))))))
  | 7, hw => exact Or.inr (Or.inr (Or.inr (Or.inr (Or.inr (Or.inr (Or.inr (hw)))))))
  | k + 8, hw => exact absurd hw (by simp [sgS])
/-- the words: those of the tables that a contract may name -/
def gwL : List Cond := lw_tbl.filter goodWord
theorem gwL_in : ∀ w ∈ gwL, w ∈ lw_tbl := fun _ h => (List.mem_filter.mp h).1
theorem gw_good : ∀ w ∈ gwL, goodWord w = true := fun _ h => (List.mem_filter.mp h).2
theorem gw_at (k : Nat) {w : Cond} {z : List Cond} (hz : sgS k = z) (h : w ∈ z) (hg : goodWord w = true) : w ∈ gwL := List.mem_filter.mpr ⟨sgS_in k w (hz ▸ h), hg⟩
theorem gx_11 : ∀ w ∈ wsX110, w ∈ gwL := by
  intro w hw
  obtain ⟨k, hk, rfl⟩ := List.mem_map.mp hw
  have hk := List.mem_range.mp hk
  match k, hk with
  | 0, _ => exact gw_at 2 (z := tables_1_2) rfl (List.mem_of_getElem? (i := 129) rfl) rfl
  | 1, _ => exact gw_at 2 (z := tables_1_2) rfl (List.mem_of_getElem? (i := 131) rfl) rfl
  | 2, _ => exact gw_at 2 (z := tables_1_2) rfl (List.mem_of_getElem? (i := 133) rfl) rfl
  | 3, _ => exact gw_at 2 (z := tables_1_2) rfl (List.mem_of_getElem? (i := 135) rfl) rfl
  | 4, _ => exact gw_at 2 (z := tables_1_2) rfl (List.mem_of_getElem? (i := 137) rfl) rfl
  | 5, _ => exact gw_at 2 (z := tables_1_2) rfl (List.mem_of_getElem? (i := 139) rfl) rfl
  | 6, _ => exact gw_at 2 (z := tables_1_2) rfl (List.mem_of_getElem? (i := 141) rfl) rfl
  | 7, _ => exact gw_at 2 (z := tables_1_2) rfl (List.mem_of_getElem? (i := 143) rfl) rfl
  | 8, _ => exact gw_at 2 (z := tables_1_2) rfl (List.mem_of_getElem? (i := 145) rfl) rfl
  | 9, _ => exact gw_at 2 (z := tables_1_2) rfl (List.mem_of_getElem? (i := 147) rfl) rfl
  | k + 10, h => exact absurd h (by omega)
theorem inX11 : ∀ w ∈ wsX110, w ∈ lw_tbl := fun w h => gwL_in w (gx_11 w h)
theorem gx_12 : ∀ w ∈ wsX120, w ∈ gwL := by
  intro w hw
  obtain ⟨k, hk, rfl⟩ := List.mem_map.mp hw
  have hk := List.mem_range.mp hk
  match k, hk with
  | 0, _ => exact gw_at 5 (z := tables_1_5) rfl (List.mem_of_getElem? (i := 117) rfl) rfl
  | 1, _ => exact gw_at 5 (z := tables_1_5) rfl (List.mem_of_getElem? (i := 119) rfl) rfl
  | 2, _ => exact gw_at 5 (z := tables_1_5) rfl (List.mem_of_getElem? (i := 121) rfl) rfl
  | 3, _ => exact gw_at 5 (z := tables_1_5) rfl (List.mem_of_getElem? (i := 123) rfl) rfl
  | 4, _ => exact gw_at 5 (z := tables_1_5) rfl (List.mem_of_getElem? (i := 125) rfl) rfl
  | 5, _ => exact gw_at 5 (z := tables_1_5) rfl (List.mem_of_getElem? (i := 127) rfl) rfl
  | 6, _ => exact gw_at 5 (z := tables_1_5) rfl (List.mem_of_getElem? (i := 129) rfl) rfl
  | 7, _ => exact gw_at 5 (z := tables_1_5) rfl (List.mem_of_getElem? (i := 131) rfl) rfl
  | 8, _ => exact gw_at 5 (z := tables_1_5) rfl (List.mem_of_getElem? (i := 133) rfl) rfl
  | 9, _ => exact gw_at 5 (z := tables_1_5) rfl (List.mem_of_getElem? (i := 135) rfl) rfl
  | 10, _ => exact gw_at 5 (z := tables_1_5) rfl (List.mem_of_getElem? (i := 137) rfl) rfl
  | 11, _ => exact gw_at 5 (z := tables_1_5) rfl (List.mem_of_getElem? (i := 139) rfl) rfl
  | 12, _ => exact gw_at 5 (z := tables_1_5) rfl (List.mem_of_getElem? (i := 141) rfl) rfl
  | 13, _ => exact gw_at 5 (z := tables_1_5) rfl (List.mem_of_getElem? (i := 143) rfl) rfl
  | 14, _ => exact gw_at 5 (z := tables_1_5) rfl (List.mem_of_getElem? (i := 145) rfl) rfl
  | 15, _ => exact gw_at 5 (z := tables_1_5) rfl (List.mem_of_getElem? (i := 147) rfl) rfl
  | 16, _ => exact gw_at 5 (z := tables_1_5) rfl (List.mem_of_getElem? (i := 149) rfl) rfl
  | 17, _ => exact gw_at 5 (z := tables_1_5) rfl (List.mem_of_getElem? (i := 151) rfl) rfl
  | 18, _ => exact gw_at 5 (z := tables_1_5) rfl (List.mem_of_getElem? (i := 153) rfl) rfl
  | 19, _ => exact gw_at 5 (z := tables_1_5) rfl (List.mem_of_getElem? (i := 155) rfl) rfl
  | 20, _ => exact gw_at 5 (z := tables_1_5) rfl (List.mem_of_getElem? (i := 157) rfl) rfl
  | 21, _ => exact gw_at 5 (z := tables_1_5) rfl (List.mem_of_getElem? (i := 159) rfl) rfl
  | 22, _ => exact gw_at 5 (z := tables_1_5) rfl (List.mem_of_getElem? (i := 161) rfl) rfl
  | 23, _ => exact gw_at 5 (z := tables_1_5) rfl (List.mem_of_getElem? (i := 163) rfl) rfl
  | 24, _ => exact gw_at 5 (z := tables_1_5) rfl (List.mem_of_getElem? (i := 165) rfl) rfl
  | 25, _ => exact gw_at 5 (z := tables_1_5) rfl (List.mem_of_getElem? (i := 167) rfl) rfl
  | 26, _ => exact gw_at 5 (z := tables_1_5) rfl (List.mem_of_getElem? (i := 169) rfl) rfl
  | 27, _ => exact gw_at 5 (z := tables_1_5) rfl (List.mem_of_getElem? (i := 171) rfl) rfl
  | 28, _ => exact gw_at 5 (z := tables_1_5) rfl (List.mem_of_getElem? (i := 173) rfl) rfl
  | 29, _ => exact gw_at 5 (z := tables_1_5) rfl (List.mem_of_getElem? (i := 175) rfl) rfl
  | 30, _ => exact gw_at 5 (z := tables_1_5) rfl (List.mem_of_getElem? (i := 177) rfl) rfl
  | 31, _ => exact gw_at 5 (z := tables_1_5) rfl (List.mem_of_getElem? (i := 179) rfl) rfl
  | 32, _ => exact gw_at 5 (z := tables_1_5) rfl (List.mem_of_getElem? (i := 181) rfl) rfl
  | 33, _ => exact gw_at 5 (z := tables_1_5) rfl (List.mem_of_getElem? (i := 183) rfl) rfl
  | 34, _ => exact gw_at 5 (z := tables_1_5) rfl (List.mem_of_getElem? (i := 185) rfl) rfl
  | 35, _ => exact gw_at 5 (z := tables_1_5) rfl (List.mem_of_getElem? (i := 187) rfl) rfl
  | 36, _ => exact gw_at 5 (z := tables_1_5) rfl (List.mem_of_getElem? (i := 189) rfl) rfl
  | 37, _ => exact gw_at 5 (z := tables_1_5) rfl (List.mem_of_getElem? (i := 191) rfl) rfl
  | 38, _ => exact gw_at 5 (z := tables_1_5) rfl (List.mem_of_getElem? (i := 193) rfl) rfl
  | 39, _ => exact gw_at 5 (z := tables_1_5) rfl (List.mem_of_getElem? (i := 195) rfl) rfl
  | 40, _ => exact gw_at 5 (z := tables_1_5) rfl (List.mem_of_getElem? (i := 197) rfl) rfl
  | 41, _ => exact gw_at 5 (z := tables_1_5) rfl (List.mem_of_getElem? (i := 199) rfl) rfl
  | 42, _ => exact gw_at 5 (z := tables_1_5) rfl (List.mem_of_getElem? (i := 201) rfl) rfl
  | 43, _ => exact gw_at 5 (z := tables_1_5) rfl (List.mem_of_getElem? (i := 203) rfl) rfl
  | 44, _ => exact gw_at 5 (z := tables_1_5) rfl (List.mem_of_getElem? (i := 205) rfl) rfl
  | 45, _ => exact gw_at 5 (z := tables_1_5) rfl (List.mem_of_getElem? (i := 207) rfl) rfl
  | 46, _ => exact gw_at 5 (z := tables_1_5) rfl (List.mem_of_getElem? (i := 209) rfl) rfl
  | 47, _ => exact gw_at 5 (z := tables_1_5) rfl (List.mem_of_getElem? (i := 211) rfl) rfl
  | 48, _ => exact gw_at 5 (z := tables_1_5) rfl (List.mem_of_getElem? (i := 213) rfl) rfl
  | 49, _ => exact gw_at 5 (z := tables_1_5) rfl (List.mem_of_getElem? (i := 215) rfl) rfl
  | 50, _ => exact gw_at 5 (z := tables_1_5) rfl (List.mem_of_getElem? (i := 217) rfl) rfl
  | 51, _ => exact gw_at 5 (z := tables_1_5) rfl (List.mem_of_getElem? (i := 219) rfl) rfl
  | 52, _ => exact gw_at 5 (z := tables_1_5) rfl (List.mem_of_getElem? (i := 221) rfl) rfl
  | 53, _ => exact gw_at 5 (z := tables_1_5) rfl (List.mem_of_getElem? (i := 223) rfl) rfl
  | 54, _ => exact gw_at 5 (z := tables_1_5) rfl (List.mem_of_getElem? (i := 225) rfl) rfl
  | k + 55, h => exact absurd h (by omega)
theorem inX12 : ∀ w ∈ wsX120, w ∈ lw_tbl := fun w h => gwL_in w (gx_12 w h)
theorem gx_0 : ∀ w ∈ wsX00, w ∈ gwL := by
  intro w hw
  obtain ⟨k, hk, rfl⟩ := List.mem_map.mp hw
  have hk := List.mem_range.mp hk
  match k, hk with
  | 0, _ => exact gw_at 1 (z := tables_1_1) rfl (List.mem_of_getElem? (i := 86) rfl) rfl
  | 1, _ => exact gw_at 1 (z := tables_1_1) rfl (List.mem_of_getElem? (i := 88) rfl) rfl
  | 2, _ => exact gw_at 1 (z := tables_1_1) rfl (List.mem_of_getElem? (i := 90) rfl) rfl
  | 3, _ => exact gw_at 1 (z := tables_1_1) rfl (List.mem_of_getElem? (i := 92) rfl) rfl
  | 4, _ => exact gw_at 1 (z := tables_1_1) rfl (List.mem_of_getElem? (i := 94) rfl) rfl
  | k + 5, h => exact absurd h (by omega)
theorem inX0 : ∀ w ∈ wsX00, w ∈ lw_tbl := fun w h => gwL_in w (gx_0 w h)
theorem gx_10 : ∀ w ∈ wsX100, w ∈ gwL := by
  intro w hw
  obtain ⟨k, hk, rfl⟩ := List.mem_map.mp hw
  have hk := List.mem_range.mp hk
  match k, hk with
  | 0, _ => exact gw_at 1 (z := tables_1_1) rfl (List.mem_of_getElem? (i := 115) rfl) rfl
  | 1, _ => exact gw_at 1 (z := tables_1_1) rfl (List.mem_of_getElem? (i := 117) rfl) rfl
  | 2, _ => exact gw_at 1 (z := tables_1_1) rfl (List.mem_of_getElem? (i := 119) rfl) rfl
  | 3, _ => exact gw_at 1 (z := tables_1_1) rfl (List.mem_of_getElem? (i := 121) rfl) rfl
  | k + 4, h => exact absurd h (by omega)
theorem inX10 : ∀ w ∈ wsX100, w ∈ lw_tbl := fun w h => gwL_in w (gx_10 w h)
theorem gx_4 : ∀ w ∈ wsX40, w ∈ gwL := by
  intro w hw
  obtain ⟨k, hk, rfl⟩ := List.mem_map.mp hw
  have hk := List.mem_range.mp hk
  match k, hk with
  | 0, _ => exact gw_at 1 (z := tables_1_1) rfl (List.mem_of_getElem? (i := 147) rfl) rfl
  | 1, _ => exact gw_at 1 (z := tables_1_1) rfl (List.mem_of_getElem? (i := 149) rfl) rfl
  | 2, _ => exact gw_at 1 (z := tables_1_1) rfl (List.mem_of_getElem? (i := 151) rfl) rfl
  | 3, _ => exact gw_at 1 (z := tables_1_1) rfl (List.mem_of_getElem? (i := 153) rfl) rfl
  | 4, _ => exact gw_at 1 (z := tables_1_1) rfl (List.mem_of_getElem? (i := 155) rfl) rfl
  | 5, _ => exact gw_at 1 (z := tables_1_1) rfl (List.mem_of_getElem? (i := 157) rfl) rfl
  | 6, _ => exact gw_at 1 (z := tables_1_1) rfl (List.mem_of_getElem? (i := 159) rfl) rfl
  | 7, _ => exact gw_at 1 (z := tables_1_1) rfl (List.mem_of_getElem? (i := 161) rfl) rfl
  | 8, _ => exact gw_at 1 (z := tables_1_1) rfl (List.mem_of_getElem? (i := 163) rfl) rfl
  | 9, _ => exact gw_at 1 (z := tables_1_1) rfl (List.mem_of_getElem? (i := 165) rfl) rfl
  | 10, _ => exact gw_at 1 (z := tables_1_1) rfl (List.mem_of_getElem? (i := 167) rfl) rfl
  | k + 11, h => exact absurd h (by omega)
theorem inX4 : ∀ w ∈ wsX40, w ∈ lw_tbl := fun w h => gwL_in w (gx_4 w h)
theorem gx_8 : ∀ w ∈ wsX80, w ∈ gwL := by
  intro w hw
  obtain ⟨k, hk, rfl⟩ := List.mem_map.mp hw
  have hk := List.mem_range.mp hk
  match k, hk with
  | 0, _ => exact gw_at 1 (z := tables_1_1) rfl (List.mem_of_getElem? (i := 189) rfl) rfl
  | 1, _ => exact gw_at 1 (z := tables_1_1) rfl (List.mem_of_getElem? (i := 191) rfl) rfl
  | 2, _ => exact gw_at 1 (z := tables_1_1) rfl (List.mem_of_getElem? (i := 193) rfl) rfl
  | 3, _ => exact gw_at 1 (z := tables_1_1) rfl (List.mem_of_getElem? (i := 195) rfl) rfl
  | 4, _ => exact gw_at 1 (z := tables_1_1) rfl (List.mem_of_getElem? (i := 197) rfl) rfl
  | 5, _ => exact gw_at 1 (z := tables_1_1) rfl (List.mem_of_getElem? (i := 199) rfl) rfl
  | 6, _ => exact gw_at 1 (z := tables_1_1) rfl (List.mem_of_getElem? (i := 201) rfl) rfl
  | 7, _ => exact gw_at 1 (z := tables_1_1) rfl (List.mem_of_getElem? (i := 203) rfl) rfl
  | 8, _ => exact gw_at 1 (z := tables_1_1) rfl (List.mem_of_getElem? (i := 205) rfl) rfl
  | 9, _ => exact gw_at 1 (z := tables_1_1) rfl (List.mem_of_getElem? (i := 207) rfl) rfl
  | 10, _ => exact gw_at 1 (z := tables_1_1) rfl (List.mem_of_getElem? (i := 209) rfl) rfl
  | 11, _ => exact gw_at 1 (z := tables_1_1) rfl (List.mem_of_getElem? (i := 211) rfl) rfl
  | 12, _ => exact gw_at 1 (z := tables_1_1) rfl (List.mem_of_getElem? (i := 213) rfl) rfl
  | k + 13, h => exact absurd h (by omega)
theorem inX8 : ∀ w ∈ wsX80, w ∈ lw_tbl := fun w h => gwL_in w (gx_8 w h)
theorem gx_9 : ∀ w ∈ wsX90, w ∈ gwL := by
  intro w hw
  obtain ⟨k, hk, rfl⟩ := List.mem_map.mp hw
  have hk := List.mem_range.mp hk
  match k, hk with
  | 0, _ => exact gw_at 1 (z := tables_1_1) rfl (List.mem_of_getElem? (i := 226) rfl) rfl
  | 1, _ => exact gw_at 1 (z := tables_1_1) rfl (List.mem_of_getElem? (i := 228) rfl) rfl
  | 2, _ => exact gw_at 1 (z := tables_1_1) rfl (List.mem_of_getElem? (i := 230) rfl) rfl
  | k + 3, h => exact absurd h (by omega)
theorem inX9 : ∀ w ∈ wsX90, w ∈ lw_tbl := fun w h => gwL_in w (gx_9 w h)
theorem gx_6 : ∀ w ∈ wsX60, w ∈ gwL := by
  intro w hw
  obtain ⟨k, hk, rfl⟩ := List.mem_map.mp hw
  have hk := List.mem_range.mp hk
  match k, hk with
  | 0, _ => exact gw_at 2 (z := tables_1_2) rfl (List.mem_of_getElem? (i := 2) rfl) rfl
  | 1, _ => exact gw_at 2 (z := tables_1_2) rfl (List.mem_of_getElem? (i := 4) rfl) rfl
  | 2, _ => exact gw_at 2 (z := tables_1_2) rfl (List.mem_of_getElem? (i := 6) rfl) rfl
  | k + 3, h => exact absurd h (by omega)
theorem inX6 : ∀ w ∈ wsX60, w ∈ lw_tbl := fun w h => gwL_in w (gx_6 w h)
theorem gx_2 : ∀ w ∈ wsX20, w ∈ gwL := by
  intro w hw
  obtain ⟨k, hk, rfl⟩ := List.mem_map.mp hw
  have hk := List.mem_range.mp hk
  match k, hk with
  | 0, _ => exact gw_at 2 (z := tables_1_2) rfl (List.mem_of_getElem? (i := 22) rfl) rfl
  | 1, _ => exact gw_at 2 (z := tables_1_2) rfl (List.mem_of_getElem? (i := 24) rfl) rfl
  | 2, _ => exact gw_at 2 (z := tables_1_2) rfl (List.mem_of_getElem? (i := 26) rfl) rfl
  | 3, _ => exact gw_at 2 (z := tables_1_2) rfl (List.mem_of_getElem? (i := 28) rfl) rfl
  | 4, _ => exact gw_at 2 (z := tables_1_2) rfl (List.mem_of_getElem? (i := 30) rfl) rfl
  | 5, _ => exact gw_at 2 (z := tables_1_2) rfl (List.mem_of_getElem? (i := 32) rfl) rfl
  | k + 6, h => exact absurd h (by omega)
theorem inX2 : ∀ w ∈ wsX20, w ∈ lw_tbl := fun w h => gwL_in w (gx_2 w h)
theorem gx_1 : ∀ w ∈ wsX10, w ∈ gwL := by
  intro w hw
  obtain ⟨k, hk, rfl⟩ := List.mem_map.mp hw
  have hk := List.mem_range.mp hk
  match k, hk with
  | 0, _ => exact gw_at 2 (z := tables_1_2) rfl (List.mem_of_getElem? (i := 51) rfl) rfl
  | 1, _ => exact gw_at 2 (z := tables_1_2) rfl (List.mem_of_getElem? (i := 53) rfl) rfl
  | 2, _ => exact gw_at 2 (z := tables_1_2) rfl (List.mem_of_getElem? (i := 55) rfl) rfl
  | 3, _ => exact gw_at 2 (z := tables_1_2) rfl (List.mem_of_getElem? (i := 57) rfl) rfl
  | 4, _ => exact gw_at 2 (z := tables_1_2) rfl (List.mem_of_getElem? (i := 59) rfl) rfl
  | k + 5, h => exact absurd h (by omega)
theorem inX1 : ∀ w ∈ wsX10, w ∈ lw_tbl := fun w h => gwL_in w (gx_1 w h)
theorem gx_3 : ∀ w ∈ wsX30, w ∈ gwL := by
  intro w hw
  obtain ⟨k, hk, rfl⟩ := List.mem_map.mp hw
  have hk := List.mem_range.mp hk
  match k, hk with
  | 0, _ => exact gw_at 2 (z := tables_1_2) rfl (List.mem_of_getElem? (i := 77) rfl) rfl
  | 1, _ => exact gw_at 2 (z := tables_1_2) rfl (List.mem_of_getElem? (i := 79) rfl) rfl
  | 2, _ => exact gw_at 2 (z := tables_1_2) rfl (List.mem_of_getElem? (i := 81) rfl) rfl
  | 3, _ => exact gw_at 2 (z := tables_1_2) rfl (List.mem_of_getElem? (i := 83) rfl) rfl
  | 4, _ => exact gw_at 2 (z := tables_1_2) rfl (List.mem_of_getElem? (i := 85) rfl) rfl
  | 5, _ => exact gw_at 2 (z := tables_1_2) rfl (List.mem_of_getElem? (i := 87) rfl) rfl
  | k + 6, h => exact absurd h (by omega)
theorem inX3 : ∀ w ∈ wsX30, w ∈ lw_tbl := fun w h => gwL_in w (gx_3 w h)
theorem gx_7 : ∀ w ∈ wsX70, w ∈ gwL := by
  intro w hw
  obtain ⟨k, hk, rfl⟩ := List.mem_map.mp hw
  have hk := List.mem_range.mp hk
  match k, hk with
  | 0, _ => exact gw_at 2 (z := tables_1_2) rfl (List.mem_of_getElem? (i := 109) rfl) rfl
  | 1, _ => exact gw_at 2 (z := tables_1_2) rfl (List.mem_of_getElem? (i := 111) rfl) rfl
  | 2, _ => exact gw_at 2 (z := tables_1_2) rfl (List.mem_of_getElem? (i := 113) rfl) rfl
  | 3, _ => exact gw_at 2 (z := tables_1_2) rfl (List.mem_of_getElem? (i := 115) rfl) rfl
  | k + 4, h => exact absurd h (by omega)
theorem inX7 : ∀ w ∈ wsX70, w ∈ lw_tbl := fun w h => gwL_in w (gx_7 w h)
theorem gx_5 : ∀ w ∈ wsX50, w ∈ gwL := by
  intro w hw
  obtain ⟨k, hk, rfl⟩ := List.mem_map.mp hw
  have hk := List.mem_range.mp hk
  match k, hk with
  | 0, _ => exact gw_at 1 (z := tables_1_1) rfl (List.mem_of_getElem? (i := 49) rfl) rfl
  | 1, _ => exact gw_at 1 (z := tables_1_1) rfl (List.mem_of_getElem? (i := 51) rfl) rfl
  | 2, _ => exact gw_at 1 (z := tables_1_1) rfl (List.mem_of_getElem? (i := 53) rfl) rfl
  | 3, _ => exact gw_at 1 (z := tables_1_1) rfl (List.mem_of_getElem? (i := 55) rfl) rfl
  | 4, _ => exact gw_at 1 (z := tables_1_1) rfl (List.mem_of_getElem? (i := 57) rfl) rfl
  | 5, _ => exact gw_at 1 (z := tables_1_1) rfl (List.mem_of_getElem? (i := 59) rfl) rfl
  | 6, _ => exact gw_at 1 (z := tables_1_1) rfl (List.mem_of_getElem? (i := 61) rfl) rfl
  | 7, _ => exact gw_at 1 (z := tables_1_1) rfl (List.mem_of_getElem? (i := 63) rfl) rfl
  | 8, _ => exact gw_at 1 (z := tables_1_1) rfl (List.mem_of_getElem? (i := 65) rfl) rfl
  | 9, _ => exact gw_at 1 (z := tables_1_1) rfl (List.mem_of_getElem? (i := 67) rfl) rfl
  | k + 10, h => exact absurd h (by omega)
theorem inX5 : ∀ w ∈ wsX50, w ∈ lw_tbl := fun w h => gwL_in w (gx_5 w h)
/-! every method's words: its code, and all that the law's word list has -/
theorem gw_in {Ts : List Cond} {cz : Cond} (hT : ∀ w ∈ gwL, w ∈ Ts) (hc : cz ∈ gwL) : GoodIn Ts (cz :: gwL) := by
  intro w hw
  rcases List.mem_cons.mp hw with rfl | hw
  · exact ⟨hT _ hc, good_of_word (gw_good _ hc)⟩
  · exact ⟨hT _ hw, good_of_word (gw_good _ hw)⟩
theorem gw_V {Ts : List Cond} {own C : String} {idx : Nat} {y : MethodName} {cz : Cond} (hT : ∀ w ∈ gwL, w ∈ Ts) (h1 : Cond.methodLink own idx y ∈ gwL) (h2 : Cond.instanceMethod y ∈ gwL) (h3 : Cond.selects C y y ∈ gwL) (h4 : Cond.initialized C ∈ gwL) (hc : cz ∈ gwL) : GoodIn Ts (wsV own idx C y (cz :: gwL)) := by
  intro w hw
  unfold wsV at hw
  rcases List.mem_append.mp hw with hw | hw
  · simp only [List.mem_cons, List.not_mem_nil, or_false] at hw
    rcases hw with rfl | rfl | rfl | rfl
    · exact ⟨hT _ h1, good_of_word (gw_good _ h1)⟩
    · exact ⟨hT _ h2, good_of_word (gw_good _ h2)⟩
    · exact ⟨hT _ h3, good_of_word (gw_good _ h3)⟩
    · exact ⟨hT _ h4, good_of_word (gw_good _ h4)⟩
  · exact gw_in hT hc w hw
theorem gw_S {Ts : List Cond} {own : String} {idx : Nat} {y : MethodName} {cz : Cond} (hT : ∀ w ∈ gwL, w ∈ Ts) (h1 : Cond.methodLink own idx y ∈ gwL) (h2 : Cond.static y ∈ gwL) (h3 : Cond.initialized y.cls ∈ gwL) (hc : cz ∈ gwL) : GoodIn Ts (va_wsS own idx y (cz :: gwL)) := by
  intro w hw
  unfold va_wsS at hw
  rcases List.mem_append.mp hw with hw | hw
  · simp only [List.mem_cons, List.not_mem_nil, or_false] at hw
    rcases hw with rfl | rfl | rfl
    · exact ⟨hT _ h1, good_of_word (gw_good _ h1)⟩
    · exact ⟨hT _ h2, good_of_word (gw_good _ h2)⟩
    · exact ⟨hT _ h3, good_of_word (gw_good _ h3)⟩
  · exact gw_in hT hc w hw

theorem mw_0 : (.fieldLink RX11 12 "SetAgain" "chair" "LSetAgain$Chair;" : Cond) ∈ gwL := gw_at 2 (z := tables_1_2) rfl (List.mem_of_getElem? (i := 119) rfl) rfl
theorem mw_1 : (.fieldLink RX11 129 "SetAgain$Chair" "law" "LSetAgain$Law;" : Cond) ∈ gwL := gw_at 1 (z := tables_1_1) rfl (List.mem_of_getElem? (i := 80) rfl) rfl
theorem mw_2 : (.fieldLink RX11 60 "SetAgain" "deed" "LSetAgain$Deed;" : Cond) ∈ gwL := gw_at 2 (z := tables_1_2) rfl (List.mem_of_getElem? (i := 125) rfl) rfl
theorem mw_3 : (.fieldLink RX11 231 "SetAgain$Deed" "told" "[I" : Cond) ∈ gwL := gw_at 2 (z := tables_1_2) rfl (List.mem_of_getElem? (i := 18) rfl) rfl
theorem mw_4 : (.fieldLink RX11 67 "SetAgain" "changes" "LSetAgain$Changes;" : Cond) ∈ gwL := gw_at 2 (z := tables_1_2) rfl (List.mem_of_getElem? (i := 126) rfl) rfl
theorem mw_5 : (.fieldLink RX11 238 "SetAgain$Changes" "done" "I" : Cond) ∈ gwL := gw_at 2 (z := tables_1_2) rfl (List.mem_of_getElem? (i := 48) rfl) rfl
theorem mw_6 : (.fieldLink RX11 247 "SetAgain$Changes" "kept" "I" : Cond) ∈ gwL := gw_at 2 (z := tables_1_2) rfl (List.mem_of_getElem? (i := 50) rfl) rfl
theorem mw_7 : (.fieldLink RX11 74 "SetAgain" "desks" "LSetAgain$Desks;" : Cond) ∈ gwL := gw_at 2 (z := tables_1_2) rfl (List.mem_of_getElem? (i := 127) rfl) rfl
theorem mw_8 : (.fieldLink RX11 260 "SetAgain$Desks" "ran" "I" : Cond) ∈ gwL := gw_at 2 (z := tables_1_2) rfl (List.mem_of_getElem? (i := 74) rfl) rfl
theorem mw_9 : (.methodLink RX11 263 Lib.Math.min.name : Cond) ∈ gwL := gw_at 4 (z := tables_1_4) rfl (List.mem_of_getElem? (i := 133) rfl) rfl
theorem mw_10 : (.static Lib.Math.min.name : Cond) ∈ gwL := gw_at 3 (z := tables_1_3) rfl (List.mem_of_getElem? (i := 94) rfl) rfl
theorem mw_11 : (.initialized "java/lang/Math" : Cond) ∈ gwL := gw_at 1 (z := tables_1_1) rfl (List.mem_of_getElem? (i := 15) rfl) rfl
theorem mw_12 : (.code Lib.Math.min.name Lib.Math.min.code 2 (some .int) : Cond) ∈ gwL := gw_at 3 (z := tables_1_3) rfl (List.mem_of_getElem? (i := 95) rfl) rfl
theorem mw_13 : (.fieldLink RX11 310 "SetAgain$Chair" "sitters" "I" : Cond) ∈ gwL := gw_at 1 (z := tables_1_1) rfl (List.mem_of_getElem? (i := 84) rfl) rfl
theorem mw_14 : (.fieldLink RX11 313 "SetAgain$Law" "length" "I" : Cond) ∈ gwL := gw_at 1 (z := tables_1_1) rfl (List.mem_of_getElem? (i := 39) rfl) rfl
theorem mw_15 : (.fieldLink RX11 271 "SetAgain$Desks" "kept" "I" : Cond) ∈ gwL := gw_at 2 (z := tables_1_2) rfl (List.mem_of_getElem? (i := 72) rfl) rfl
theorem mw_16 : (.fieldLink RX3 25 "SetAgain$Desks" "ran" "I" : Cond) ∈ gwL := gw_at 2 (z := tables_1_2) rfl (List.mem_of_getElem? (i := 73) rfl) rfl
theorem mw_17 : (.fieldLink RX3 18 "SetAgain$Desks" "kept" "I" : Cond) ∈ gwL := gw_at 2 (z := tables_1_2) rfl (List.mem_of_getElem? (i := 71) rfl) rfl
theorem mw_18 : (.fieldLink RX2 73 "SetAgain$Deed" "kept" "Z" : Cond) ∈ gwL := gw_at 2 (z := tables_1_2) rfl (List.mem_of_getElem? (i := 21) rfl) rfl
theorem mw_19 : (.fieldLink RX2 11 "SetAgain$Deed" "told" "[I" : Cond) ∈ gwL := gw_at 2 (z := tables_1_2) rfl (List.mem_of_getElem? (i := 17) rfl) rfl
theorem mw_20 : (.fieldLink RX2 15 "SetAgain$Deed" "keptTold" "[I" : Cond) ∈ gwL := gw_at 2 (z := tables_1_2) rfl (List.mem_of_getElem? (i := 19) rfl) rfl
theorem mw_21 : (.methodLink RX2 46 arraycopyName : Cond) ∈ gwL := gw_at 4 (z := tables_1_4) rfl (List.mem_of_getElem? (i := 156) rfl) rfl
theorem mw_22 : (.native arraycopyName : Cond) ∈ gwL := gw_at 2 (z := tables_1_2) rfl (List.mem_of_getElem? (i := 209) rfl) rfl
theorem mw_23 : (.static arraycopyName : Cond) ∈ gwL := gw_at 2 (z := tables_1_2) rfl (List.mem_of_getElem? (i := 208) rfl) rfl
theorem mw_24 : (.initialized "java/lang/System" : Cond) ∈ gwL := gw_at 1 (z := tables_1_1) rfl (List.mem_of_getElem? (i := 14) rfl) rfl
theorem mw_25 : (.fieldLink RX2 21 "SetAgain$Deed" "chair" "LSetAgain$Chair;" : Cond) ∈ gwL := gw_at 2 (z := tables_1_2) rfl (List.mem_of_getElem? (i := 15) rfl) rfl
theorem mw_26 : (.fieldLink RX2 41 "SetAgain$Chair" "stands" "[I" : Cond) ∈ gwL := gw_at 1 (z := tables_1_1) rfl (List.mem_of_getElem? (i := 75) rfl) rfl
theorem mw_27 : (.fieldLink RX2 18 "SetAgain$Deed" "keptStands" "[I" : Cond) ∈ gwL := gw_at 2 (z := tables_1_2) rfl (List.mem_of_getElem? (i := 20) rfl) rfl
theorem mw_28 : (.fieldLink RX0 28 "SetAgain$Chair" "sitters" "I" : Cond) ∈ gwL := gw_at 1 (z := tables_1_1) rfl (List.mem_of_getElem? (i := 81) rfl) rfl
theorem mw_29 : (.fieldLink RX5 28 "SetAgain$Law" "at" "I" : Cond) ∈ gwL := gw_at 1 (z := tables_1_1) rfl (List.mem_of_getElem? (i := 45) rfl) rfl
theorem mw_30 : (.fieldLink RX5 31 "SetAgain$Law" "fault" "I" : Cond) ∈ gwL := gw_at 1 (z := tables_1_1) rfl (List.mem_of_getElem? (i := 46) rfl) rfl
theorem mw_31 : (.fieldLink RX5 34 "SetAgain$Law" "drafted" "I" : Cond) ∈ gwL := gw_at 1 (z := tables_1_1) rfl (List.mem_of_getElem? (i := 47) rfl) rfl
theorem mw_32 : (.fieldLink RX5 24 "SetAgain$Law" "length" "I" : Cond) ∈ gwL := gw_at 1 (z := tables_1_1) rfl (List.mem_of_getElem? (i := 38) rfl) rfl
theorem mw_33 : (.fieldLink RX5 11 "SetAgain$Law" "tape" "[I" : Cond) ∈ gwL := gw_at 1 (z := tables_1_1) rfl (List.mem_of_getElem? (i := 37) rfl) rfl
theorem mw_34 : (.code yX11_isShelf cX11_isShelf 1 (some .boolean) : Cond) ∈ gwL := gw_at 2 (z := tables_1_2) rfl (List.mem_of_getElem? (i := 178) rfl) rfl
theorem mw_35 : (.methodLink RX11 97 yX11_isShelf : Cond) ∈ gwL := gw_at 2 (z := tables_1_2) rfl (List.mem_of_getElem? (i := 176) rfl) rfl
theorem mw_36 : (.static yX11_isShelf : Cond) ∈ gwL := gw_at 2 (z := tables_1_2) rfl (List.mem_of_getElem? (i := 177) rfl) rfl
theorem mw_37 : (.initialized RX11 : Cond) ∈ gwL := gw_at 1 (z := tables_1_1) rfl (List.mem_of_getElem? (i := 1) rfl) rfl
theorem mw_38 : (.code yX11_isKind cX11_isKind 1 (some .boolean) : Cond) ∈ gwL := gw_at 4 (z := tables_1_4) rfl (List.mem_of_getElem? (i := 210) rfl) rfl
theorem mw_39 : (.methodLink RX11 253 yX11_isKind : Cond) ∈ gwL := gw_at 4 (z := tables_1_4) rfl (List.mem_of_getElem? (i := 208) rfl) rfl
theorem mw_40 : (.static yX11_isKind : Cond) ∈ gwL := gw_at 4 (z := tables_1_4) rfl (List.mem_of_getElem? (i := 209) rfl) rfl
theorem mw_41 : (.fieldLink RX11 80 "SetAgain" "shelves" "[LSetAgain$Shelf;" : Cond) ∈ gwL := gw_at 2 (z := tables_1_2) rfl (List.mem_of_getElem? (i := 128) rfl) rfl
theorem mw_42 : (.fieldLink RX11 100 "SetAgain$Shelf" "sort" "I" : Cond) ∈ gwL := gw_at 2 (z := tables_1_2) rfl (List.mem_of_getElem? (i := 102) rfl) rfl
theorem mw_43 : (.code yX3_acts cX3_acts 4 (some .int) : Cond) ∈ gwL := gw_at 4 (z := tables_1_4) rfl (List.mem_of_getElem? (i := 222) rfl) rfl
theorem mw_44 : (.methodLink RX11 257 yX3_acts : Cond) ∈ gwL := gw_at 4 (z := tables_1_4) rfl (List.mem_of_getElem? (i := 219) rfl) rfl
theorem mw_45 : (.instanceMethod yX3_acts : Cond) ∈ gwL := gw_at 4 (z := tables_1_4) rfl (List.mem_of_getElem? (i := 220) rfl) rfl
theorem mw_46 : (.selects RX3 yX3_acts yX3_acts : Cond) ∈ gwL := gw_at 4 (z := tables_1_4) rfl (List.mem_of_getElem? (i := 221) rfl) rfl
theorem mw_47 : (.initialized RX3 : Cond) ∈ gwL := gw_at 1 (z := tables_1_1) rfl (List.mem_of_getElem? (i := 11) rfl) rfl
theorem mw_48 : (.code yX2_layBack cX2_layBack 1 (some .int) : Cond) ∈ gwL := gw_at 4 (z := tables_1_4) rfl (List.mem_of_getElem? (i := 195) rfl) rfl
theorem mw_49 : (.methodLink RX11 235 yX2_layBack : Cond) ∈ gwL := gw_at 4 (z := tables_1_4) rfl (List.mem_of_getElem? (i := 192) rfl) rfl
theorem mw_50 : (.instanceMethod yX2_layBack : Cond) ∈ gwL := gw_at 4 (z := tables_1_4) rfl (List.mem_of_getElem? (i := 193) rfl) rfl
theorem mw_51 : (.selects RX2 yX2_layBack yX2_layBack : Cond) ∈ gwL := gw_at 4 (z := tables_1_4) rfl (List.mem_of_getElem? (i := 194) rfl) rfl
theorem mw_52 : (.initialized RX2 : Cond) ∈ gwL := gw_at 1 (z := tables_1_1) rfl (List.mem_of_getElem? (i := 9) rfl) rfl
theorem mw_53 : (.code yX2_keepImage cX2_keepImage 1 (some .int) : Cond) ∈ gwL := gw_at 4 (z := tables_1_4) rfl (List.mem_of_getElem? (i := 187) rfl) rfl
theorem mw_54 : (.methodLink RX11 232 yX2_keepImage : Cond) ∈ gwL := gw_at 4 (z := tables_1_4) rfl (List.mem_of_getElem? (i := 184) rfl) rfl
theorem mw_55 : (.instanceMethod yX2_keepImage : Cond) ∈ gwL := gw_at 4 (z := tables_1_4) rfl (List.mem_of_getElem? (i := 185) rfl) rfl
theorem mw_56 : (.selects RX2 yX2_keepImage yX2_keepImage : Cond) ∈ gwL := gw_at 4 (z := tables_1_4) rfl (List.mem_of_getElem? (i := 186) rfl) rfl
theorem mw_57 : (.code yX11_isPart cX11_isPart 1 (some .boolean) : Cond) ∈ gwL := gw_at 2 (z := tables_1_2) rfl (List.mem_of_getElem? (i := 220) rfl) rfl
theorem mw_58 : (.methodLink RX11 123 yX11_isPart : Cond) ∈ gwL := gw_at 2 (z := tables_1_2) rfl (List.mem_of_getElem? (i := 218) rfl) rfl
theorem mw_59 : (.static yX11_isPart : Cond) ∈ gwL := gw_at 2 (z := tables_1_2) rfl (List.mem_of_getElem? (i := 219) rfl) rfl
theorem mw_60 : (.code yX11_isSetting cX11_isSetting 1 (some .boolean) : Cond) ∈ gwL := gw_at 2 (z := tables_1_2) rfl (List.mem_of_getElem? (i := 156) rfl) rfl
theorem mw_61 : (.methodLink RX11 85 yX11_isSetting : Cond) ∈ gwL := gw_at 2 (z := tables_1_2) rfl (List.mem_of_getElem? (i := 154) rfl) rfl
theorem mw_62 : (.static yX11_isSetting : Cond) ∈ gwL := gw_at 2 (z := tables_1_2) rfl (List.mem_of_getElem? (i := 155) rfl) rfl
theorem mw_63 : (.code yX0_has cX0_has 2 (some .boolean) : Cond) ∈ gwL := gw_at 3 (z := tables_1_3) rfl (List.mem_of_getElem? (i := 67) rfl) rfl
theorem mw_64 : (.methodLink RX11 146 yX0_has : Cond) ∈ gwL := gw_at 3 (z := tables_1_3) rfl (List.mem_of_getElem? (i := 64) rfl) rfl
theorem mw_65 : (.instanceMethod yX0_has : Cond) ∈ gwL := gw_at 3 (z := tables_1_3) rfl (List.mem_of_getElem? (i := 65) rfl) rfl
theorem mw_66 : (.selects RX0 yX0_has yX0_has : Cond) ∈ gwL := gw_at 3 (z := tables_1_3) rfl (List.mem_of_getElem? (i := 66) rfl) rfl
theorem mw_67 : (.initialized RX0 : Cond) ∈ gwL := gw_at 1 (z := tables_1_1) rfl (List.mem_of_getElem? (i := 2) rfl) rfl
theorem mw_68 : (.constant RX11 205 (-2000000000) : Cond) ∈ gwL := gw_at 4 (z := tables_1_4) rfl (List.mem_of_getElem? (i := 81) rfl) rfl
theorem mw_69 : (.code yX5_takes cX5_takes 2 (some .int) : Cond) ∈ gwL := gw_at 2 (z := tables_1_2) rfl (List.mem_of_getElem? (i := 228) rfl) rfl
theorem mw_70 : (.methodLink RX11 133 yX5_takes : Cond) ∈ gwL := gw_at 2 (z := tables_1_2) rfl (List.mem_of_getElem? (i := 225) rfl) rfl
theorem mw_71 : (.instanceMethod yX5_takes : Cond) ∈ gwL := gw_at 2 (z := tables_1_2) rfl (List.mem_of_getElem? (i := 226) rfl) rfl
theorem mw_72 : (.selects RX5 yX5_takes yX5_takes : Cond) ∈ gwL := gw_at 2 (z := tables_1_2) rfl (List.mem_of_getElem? (i := 227) rfl) rfl
theorem mw_73 : (.initialized RX5 : Cond) ∈ gwL := gw_at 1 (z := tables_1_1) rfl (List.mem_of_getElem? (i := 3) rfl) rfl
theorem mw_74 : (.code yX0_placeOf cX0_placeOf 3 (some .int) : Cond) ∈ gwL := gw_at 2 (z := tables_1_2) rfl (List.mem_of_getElem? (i := 198) rfl) rfl
theorem mw_75 : (.methodLink RX11 108 yX0_placeOf : Cond) ∈ gwL := gw_at 2 (z := tables_1_2) rfl (List.mem_of_getElem? (i := 195) rfl) rfl
theorem mw_76 : (.instanceMethod yX0_placeOf : Cond) ∈ gwL := gw_at 2 (z := tables_1_2) rfl (List.mem_of_getElem? (i := 196) rfl) rfl
theorem mw_77 : (.selects RX0 yX0_placeOf yX0_placeOf : Cond) ∈ gwL := gw_at 2 (z := tables_1_2) rfl (List.mem_of_getElem? (i := 197) rfl) rfl
theorem mw_78 : (.fieldLink RX11 112 "SetAgain$Chair" "told" "[I" : Cond) ∈ gwL := gw_at 1 (z := tables_1_1) rfl (List.mem_of_getElem? (i := 72) rfl) rfl
theorem mw_79 : (.fieldLink RX11 126 "SetAgain$Chair" "stands" "[I" : Cond) ∈ gwL := gw_at 1 (z := tables_1_1) rfl (List.mem_of_getElem? (i := 78) rfl) rfl
theorem mw_80 : (.fieldLink RX0 11 "SetAgain$Chair" "told" "[I" : Cond) ∈ gwL := gw_at 1 (z := tables_1_1) rfl (List.mem_of_getElem? (i := 71) rfl) rfl
theorem mw_81 : (.methodLink RX0 36 Lib.Math.max.name : Cond) ∈ gwL := gw_at 3 (z := tables_1_3) rfl (List.mem_of_getElem? (i := 96) rfl) rfl
theorem mw_82 : (.static Lib.Math.max.name : Cond) ∈ gwL := gw_at 3 (z := tables_1_3) rfl (List.mem_of_getElem? (i := 97) rfl) rfl
theorem mw_83 : (.code Lib.Math.max.name Lib.Math.max.code 2 (some .int) : Cond) ∈ gwL := gw_at 3 (z := tables_1_3) rfl (List.mem_of_getElem? (i := 98) rfl) rfl
theorem mw_84 : (.fieldLink RX7 15 "SetAgain$Shelf" "sort" "I" : Cond) ∈ gwL := gw_at 2 (z := tables_1_2) rfl (List.mem_of_getElem? (i := 101) rfl) rfl
theorem mw_85 : (.fieldLink RX7 22 "SetAgain$Shelf" "length" "I" : Cond) ∈ gwL := gw_at 2 (z := tables_1_2) rfl (List.mem_of_getElem? (i := 104) rfl) rfl
theorem mw_86 : (.fieldLink RX7 9 "SetAgain$Shelf" "elements" "[J" : Cond) ∈ gwL := gw_at 2 (z := tables_1_2) rfl (List.mem_of_getElem? (i := 97) rfl) rfl
theorem mw_87 : (.fieldLink RX7 19 "SetAgain$Shelf" "desk" "I" : Cond) ∈ gwL := gw_at 2 (z := tables_1_2) rfl (List.mem_of_getElem? (i := 107) rfl) rfl
theorem mw_88 : (.fieldLink RX3 9 "SetAgain$Desks" "kinds" "[I" : Cond) ∈ gwL := gw_at 2 (z := tables_1_2) rfl (List.mem_of_getElem? (i := 68) rfl) rfl
theorem mw_89 : (.methodLink RX2 63 Lib.Math.abs.name : Cond) ∈ gwL := gw_at 4 (z := tables_1_4) rfl (List.mem_of_getElem? (i := 166) rfl) rfl
theorem mw_90 : (.static Lib.Math.abs.name : Cond) ∈ gwL := gw_at 3 (z := tables_1_3) rfl (List.mem_of_getElem? (i := 87) rfl) rfl
theorem mw_91 : (.code Lib.Math.abs.name Lib.Math.abs.code 1 (some .int) : Cond) ∈ gwL := gw_at 3 (z := tables_1_3) rfl (List.mem_of_getElem? (i := 88) rfl) rfl
theorem mw_92 : (.fieldLink RX2 25 "SetAgain$Deed" "habits" "LSetAgain$Habits;" : Cond) ∈ gwL := gw_at 2 (z := tables_1_2) rfl (List.mem_of_getElem? (i := 16) rfl) rfl
theorem mw_93 : (.fieldLink RX0 25 "SetAgain$Chair" "lost" "[I" : Cond) ∈ gwL := gw_at 1 (z := tables_1_1) rfl (List.mem_of_getElem? (i := 85) rfl) rfl
theorem mw_94 : (.fieldLink RX11 314 "SetAgain" "MOST" "[I" : Cond) ∈ gwL := gw_at 2 (z := tables_1_2) rfl (List.mem_of_getElem? (i := 160) rfl) rfl
theorem mw_95 : (.fieldLink RX11 317 "SetAgain" "LEAST" "[I" : Cond) ∈ gwL := gw_at 2 (z := tables_1_2) rfl (List.mem_of_getElem? (i := 162) rfl) rfl
theorem mw_96 : (.fieldLink RX4 36 "SetAgain$Habits" "losses" "I" : Cond) ∈ gwL := gw_at 1 (z := tables_1_1) rfl (List.mem_of_getElem? (i := 137) rfl) rfl
theorem mw_97 : (.fieldLink RX4 39 "SetAgain$Habits" "costs" "I" : Cond) ∈ gwL := gw_at 1 (z := tables_1_1) rfl (List.mem_of_getElem? (i := 140) rfl) rfl
theorem mw_98 : (.fieldLink RX4 15 "SetAgain$Habits" "turns" "[I" : Cond) ∈ gwL := gw_at 1 (z := tables_1_1) rfl (List.mem_of_getElem? (i := 135) rfl) rfl
theorem mw_99 : (.fieldLink RX4 18 "SetAgain$Habits" "spared" "[I" : Cond) ∈ gwL := gw_at 1 (z := tables_1_1) rfl (List.mem_of_getElem? (i := 136) rfl) rfl
theorem mw_100 : (.code yX11_refusalOf cX11_refusalOf 2 (some .int) : Cond) ∈ gwL := gw_at 3 (z := tables_1_3) rfl (List.mem_of_getElem? (i := 110) rfl) rfl
theorem mw_101 : (.methodLink RX11 209 yX11_refusalOf : Cond) ∈ gwL := gw_at 3 (z := tables_1_3) rfl (List.mem_of_getElem? (i := 107) rfl) rfl
theorem mw_102 : (.instanceMethod yX11_refusalOf : Cond) ∈ gwL := gw_at 3 (z := tables_1_3) rfl (List.mem_of_getElem? (i := 109) rfl) rfl
theorem mw_103 : (.selects RX11 yX11_refusalOf yX11_refusalOf : Cond) ∈ gwL := gw_at 0 (z := (k2_sels lw_privs)) rfl (List.mem_of_getElem? (i := 18) rfl) rfl
theorem mw_104 : (.fieldLink RX11 19 "SetAgain" "week" "LSetAgain$Week;" : Cond) ∈ gwL := gw_at 2 (z := tables_1_2) rfl (List.mem_of_getElem? (i := 120) rfl) rfl
theorem mw_105 : (.fieldLink RX3 28 "SetAgain$Desks" "kind" "I" : Cond) ∈ gwL := gw_at 2 (z := tables_1_2) rfl (List.mem_of_getElem? (i := 75) rfl) rfl
theorem mw_106 : (.fieldLink RX3 31 "SetAgain$Desks" "number" "I" : Cond) ∈ gwL := gw_at 2 (z := tables_1_2) rfl (List.mem_of_getElem? (i := 76) rfl) rfl
theorem mw_107 : (.code yX0_slipped cX0_slipped 3 (some .int) : Cond) ∈ gwL := gw_at 3 (z := tables_1_3) rfl (List.mem_of_getElem? (i := 168) rfl) rfl
theorem mw_108 : (.methodLink RX2 69 yX0_slipped : Cond) ∈ gwL := gw_at 4 (z := tables_1_4) rfl (List.mem_of_getElem? (i := 175) rfl) rfl
theorem mw_109 : (.instanceMethod yX0_slipped : Cond) ∈ gwL := gw_at 3 (z := tables_1_3) rfl (List.mem_of_getElem? (i := 166) rfl) rfl
theorem mw_110 : (.selects RX0 yX0_slipped yX0_slipped : Cond) ∈ gwL := gw_at 3 (z := tables_1_3) rfl (List.mem_of_getElem? (i := 167) rfl) rfl
theorem mw_111 : (.code yX11_refusalAt cX11_refusalAt 4 (some .int) : Cond) ∈ gwL := gw_at 5 (z := tables_1_5) rfl (List.mem_of_getElem? (i := 25) rfl) rfl
theorem mw_112 : (.methodLink RX11 278 yX11_refusalAt : Cond) ∈ gwL := gw_at 5 (z := tables_1_5) rfl (List.mem_of_getElem? (i := 22) rfl) rfl
theorem mw_113 : (.instanceMethod yX11_refusalAt : Cond) ∈ gwL := gw_at 5 (z := tables_1_5) rfl (List.mem_of_getElem? (i := 24) rfl) rfl
theorem mw_114 : (.selects RX11 yX11_refusalAt yX11_refusalAt : Cond) ∈ gwL := gw_at 0 (z := (k2_sels lw_privs)) rfl (List.mem_of_getElem? (i := 45) rfl) rfl
theorem mw_115 : (.fieldLink RX11 281 "SetAgain$Shelf" "elements" "[J" : Cond) ∈ gwL := gw_at 2 (z := tables_1_2) rfl (List.mem_of_getElem? (i := 100) rfl) rfl
theorem mw_116 : (.constantLong RX11 289 (-9223372036854775808) : Cond) ∈ gwL := gw_at 5 (z := tables_1_5) rfl (List.mem_of_getElem? (i := 38) rfl) rfl
theorem mw_117 : (.code yX7_takesRow cX7_takesRow 4 none : Cond) ∈ gwL := gw_at 5 (z := tables_1_5) rfl (List.mem_of_getElem? (i := 17) rfl) rfl
theorem mw_118 : (.methodLink RX11 275 yX7_takesRow : Cond) ∈ gwL := gw_at 5 (z := tables_1_5) rfl (List.mem_of_getElem? (i := 14) rfl) rfl
theorem mw_119 : (.instanceMethod yX7_takesRow : Cond) ∈ gwL := gw_at 5 (z := tables_1_5) rfl (List.mem_of_getElem? (i := 15) rfl) rfl
theorem mw_120 : (.selects RX7 yX7_takesRow yX7_takesRow : Cond) ∈ gwL := gw_at 5 (z := tables_1_5) rfl (List.mem_of_getElem? (i := 16) rfl) rfl
theorem mw_121 : (.initialized RX7 : Cond) ∈ gwL := gw_at 1 (z := tables_1_1) rfl (List.mem_of_getElem? (i := 12) rfl) rfl
theorem mw_122 : (.code yX7_takesDesk cX7_takesDesk 2 none : Cond) ∈ gwL := gw_at 5 (z := tables_1_5) rfl (List.mem_of_getElem? (i := 9) rfl) rfl
theorem mw_123 : (.methodLink RX11 272 yX7_takesDesk : Cond) ∈ gwL := gw_at 5 (z := tables_1_5) rfl (List.mem_of_getElem? (i := 6) rfl) rfl
theorem mw_124 : (.instanceMethod yX7_takesDesk : Cond) ∈ gwL := gw_at 5 (z := tables_1_5) rfl (List.mem_of_getElem? (i := 7) rfl) rfl
theorem mw_125 : (.selects RX7 yX7_takesDesk yX7_takesDesk : Cond) ∈ gwL := gw_at 5 (z := tables_1_5) rfl (List.mem_of_getElem? (i := 8) rfl) rfl
theorem mw_126 : (.code yX3_comes cX3_comes 2 (some .int) : Cond) ∈ gwL := gw_at 4 (z := tables_1_4) rfl (List.mem_of_getElem? (i := 214) rfl) rfl
theorem mw_127 : (.methodLink RX11 256 yX3_comes : Cond) ∈ gwL := gw_at 4 (z := tables_1_4) rfl (List.mem_of_getElem? (i := 211) rfl) rfl
theorem mw_128 : (.instanceMethod yX3_comes : Cond) ∈ gwL := gw_at 4 (z := tables_1_4) rfl (List.mem_of_getElem? (i := 212) rfl) rfl
theorem mw_129 : (.selects RX3 yX3_comes yX3_comes : Cond) ∈ gwL := gw_at 4 (z := tables_1_4) rfl (List.mem_of_getElem? (i := 213) rfl) rfl
theorem mw_130 : (.code yX2_allSlip cX2_allSlip 4 (some .int) : Cond) ∈ gwL := gw_at 4 (z := tables_1_4) rfl (List.mem_of_getElem? (i := 174) rfl) rfl
theorem mw_131 : (.methodLink RX11 228 yX2_allSlip : Cond) ∈ gwL := gw_at 4 (z := tables_1_4) rfl (List.mem_of_getElem? (i := 171) rfl) rfl
theorem mw_132 : (.instanceMethod yX2_allSlip : Cond) ∈ gwL := gw_at 4 (z := tables_1_4) rfl (List.mem_of_getElem? (i := 172) rfl) rfl
theorem mw_133 : (.selects RX2 yX2_allSlip yX2_allSlip : Cond) ∈ gwL := gw_at 4 (z := tables_1_4) rfl (List.mem_of_getElem? (i := 173) rfl) rfl
theorem mw_134 : (.code yX2_turns cX2_turns 4 (some .int) : Cond) ∈ gwL := gw_at 4 (z := tables_1_4) rfl (List.mem_of_getElem? (i := 165) rfl) rfl
theorem mw_135 : (.methodLink RX11 225 yX2_turns : Cond) ∈ gwL := gw_at 4 (z := tables_1_4) rfl (List.mem_of_getElem? (i := 162) rfl) rfl
theorem mw_136 : (.instanceMethod yX2_turns : Cond) ∈ gwL := gw_at 4 (z := tables_1_4) rfl (List.mem_of_getElem? (i := 163) rfl) rfl
theorem mw_137 : (.selects RX2 yX2_turns yX2_turns : Cond) ∈ gwL := gw_at 4 (z := tables_1_4) rfl (List.mem_of_getElem? (i := 164) rfl) rfl
theorem mw_138 : (.code yX11_readWeek cX11_readWeek 3 (some .int) : Cond) ∈ gwL := gw_at 3 (z := tables_1_3) rfl (List.mem_of_getElem? (i := 106) rfl) rfl
theorem mw_139 : (.methodLink RX11 153 yX11_readWeek : Cond) ∈ gwL := gw_at 3 (z := tables_1_3) rfl (List.mem_of_getElem? (i := 103) rfl) rfl
theorem mw_140 : (.instanceMethod yX11_readWeek : Cond) ∈ gwL := gw_at 3 (z := tables_1_3) rfl (List.mem_of_getElem? (i := 105) rfl) rfl
theorem mw_141 : (.selects RX11 yX11_readWeek yX11_readWeek : Cond) ∈ gwL := gw_at 0 (z := (k2_sels lw_privs)) rfl (List.mem_of_getElem? (i := 17) rfl) rfl
theorem mw_142 : (.fieldLink RX11 212 "SetAgain$Shelf" "length" "I" : Cond) ∈ gwL := gw_at 2 (z := tables_1_2) rfl (List.mem_of_getElem? (i := 106) rfl) rfl
theorem mw_143 : (.fieldLink RX11 51 "SetAgain" "seen" "LSetAgain$Seen;" : Cond) ∈ gwL := gw_at 2 (z := tables_1_2) rfl (List.mem_of_getElem? (i := 124) rfl) rfl
theorem mw_144 : (.code yX0_lossAt cX0_lossAt 9 (some .int) : Cond) ∈ gwL := gw_at 3 (z := tables_1_3) rfl (List.mem_of_getElem? (i := 71) rfl) rfl
theorem mw_145 : (.methodLink RX11 149 yX0_lossAt : Cond) ∈ gwL := gw_at 3 (z := tables_1_3) rfl (List.mem_of_getElem? (i := 68) rfl) rfl
theorem mw_146 : (.instanceMethod yX0_lossAt : Cond) ∈ gwL := gw_at 3 (z := tables_1_3) rfl (List.mem_of_getElem? (i := 69) rfl) rfl
theorem mw_147 : (.selects RX0 yX0_lossAt yX0_lossAt : Cond) ∈ gwL := gw_at 3 (z := tables_1_3) rfl (List.mem_of_getElem? (i := 70) rfl) rfl
theorem mw_148 : (.code yX11_fits cX11_fits 2 (some .boolean) : Cond) ∈ gwL := gw_at 2 (z := tables_1_2) rfl (List.mem_of_getElem? (i := 159) rfl) rfl
theorem mw_149 : (.methodLink RX11 89 yX11_fits : Cond) ∈ gwL := gw_at 2 (z := tables_1_2) rfl (List.mem_of_getElem? (i := 157) rfl) rfl
theorem mw_150 : (.static yX11_fits : Cond) ∈ gwL := gw_at 2 (z := tables_1_2) rfl (List.mem_of_getElem? (i := 158) rfl) rfl
theorem mw_151 : (.fieldLink RX4 9 "SetAgain$Habits" "stand" "[I" : Cond) ∈ gwL := gw_at 1 (z := tables_1_1) rfl (List.mem_of_getElem? (i := 132) rfl) rfl
theorem mw_152 : (.fieldLink RX4 28 "SetAgain$Habits" "chair" "LSetAgain$Chair;" : Cond) ∈ gwL := gw_at 1 (z := tables_1_1) rfl (List.mem_of_getElem? (i := 130) rfl) rfl
theorem mw_153 : (.fieldLink RX4 45 "SetAgain$Chair" "stands" "[I" : Cond) ∈ gwL := gw_at 1 (z := tables_1_1) rfl (List.mem_of_getElem? (i := 77) rfl) rfl
theorem mw_154 : (.fieldLink RX10 18 "SetAgain$Shelf" "length" "I" : Cond) ∈ gwL := gw_at 2 (z := tables_1_2) rfl (List.mem_of_getElem? (i := 103) rfl) rfl
theorem mw_155 : (.methodLink RX10 24 Lib.Math.min.name : Cond) ∈ gwL := gw_at 3 (z := tables_1_3) rfl (List.mem_of_getElem? (i := 115) rfl) rfl
theorem mw_156 : (.fieldLink RX10 30 "SetAgain$Week" "length" "I" : Cond) ∈ gwL := gw_at 1 (z := tables_1_1) rfl (List.mem_of_getElem? (i := 109) rfl) rfl
theorem mw_157 : (.fieldLink RX10 31 "SetAgain$Week" "sat" "I" : Cond) ∈ gwL := gw_at 1 (z := tables_1_1) rfl (List.mem_of_getElem? (i := 113) rfl) rfl
theorem mw_158 : (.fieldLink RX10 15 "SetAgain$Week" "times" "[I" : Cond) ∈ gwL := gw_at 1 (z := tables_1_1) rfl (List.mem_of_getElem? (i := 107) rfl) rfl
theorem mw_159 : (.fieldLink RX10 34 "SetAgain$Shelf" "elements" "[J" : Cond) ∈ gwL := gw_at 2 (z := tables_1_2) rfl (List.mem_of_getElem? (i := 98) rfl) rfl
theorem mw_160 : (.fieldLink RX10 9 "SetAgain$Week" "sitters" "[I" : Cond) ∈ gwL := gw_at 1 (z := tables_1_1) rfl (List.mem_of_getElem? (i := 103) rfl) rfl
theorem mw_161 : (.fieldLink RX11 168 "SetAgain$Week" "length" "I" : Cond) ∈ gwL := gw_at 1 (z := tables_1_1) rfl (List.mem_of_getElem? (i := 112) rfl) rfl
theorem mw_162 : (.fieldLink RX11 28 "SetAgain" "habits" "LSetAgain$Habits;" : Cond) ∈ gwL := gw_at 2 (z := tables_1_2) rfl (List.mem_of_getElem? (i := 121) rfl) rfl
theorem mw_163 : (.fieldLink RX6 15 "SetAgain$Seen" "row" "LSetAgain$Shelf;" : Cond) ∈ gwL := gw_at 2 (z := tables_1_2) rfl (List.mem_of_getElem? (i := 0) rfl) rfl
theorem mw_164 : (.fieldLink RX6 19 "SetAgain$Seen" "part" "I" : Cond) ∈ gwL := gw_at 2 (z := tables_1_2) rfl (List.mem_of_getElem? (i := 1) rfl) rfl
theorem mw_165 : (.fieldLink RX1 19 "SetAgain$Changes" "done" "I" : Cond) ∈ gwL := gw_at 2 (z := tables_1_2) rfl (List.mem_of_getElem? (i := 47) rfl) rfl
theorem mw_166 : (.fieldLink RX1 9 "SetAgain$Changes" "places" "[I" : Cond) ∈ gwL := gw_at 2 (z := tables_1_2) rfl (List.mem_of_getElem? (i := 41) rfl) rfl
theorem mw_167 : (.fieldLink RX1 13 "SetAgain$Changes" "before" "[I" : Cond) ∈ gwL := gw_at 2 (z := tables_1_2) rfl (List.mem_of_getElem? (i := 43) rfl) rfl
theorem mw_168 : (.fieldLink RX1 16 "SetAgain$Changes" "after" "[I" : Cond) ∈ gwL := gw_at 2 (z := tables_1_2) rfl (List.mem_of_getElem? (i := 45) rfl) rfl
theorem mw_169 : (.fieldLink RX1 26 "SetAgain$Changes" "kept" "I" : Cond) ∈ gwL := gw_at 2 (z := tables_1_2) rfl (List.mem_of_getElem? (i := 49) rfl) rfl
theorem mw_170 : (.fieldLink RX6 9 "SetAgain$Seen" "chair" "LSetAgain$Chair;" : Cond) ∈ gwL := gw_at 1 (z := tables_1_1) rfl (List.mem_of_getElem? (i := 239) rfl) rfl
theorem mw_171 : (.fieldLink RX6 39 "SetAgain$Chair" "stands" "[I" : Cond) ∈ gwL := gw_at 1 (z := tables_1_1) rfl (List.mem_of_getElem? (i := 76) rfl) rfl
theorem mw_172 : (.fieldLink RX6 30 "SetAgain$Chair" "sitters" "I" : Cond) ∈ gwL := gw_at 1 (z := tables_1_1) rfl (List.mem_of_getElem? (i := 82) rfl) rfl
theorem mw_173 : (.fieldLink RX3 42 "SetAgain$Desks" "OWN" "[I" : Cond) ∈ gwL := gw_at 4 (z := tables_1_4) rfl (List.mem_of_getElem? (i := 230) rfl) rfl
theorem mw_174 : (.fieldLink RX3 22 "SetAgain$Desks" "ABOVE" "[I" : Cond) ∈ gwL := gw_at 4 (z := tables_1_4) rfl (List.mem_of_getElem? (i := 232) rfl) rfl
theorem mw_175 : (.code yX0_forget cX0_forget 4 none : Cond) ∈ gwL := gw_at 2 (z := tables_1_2) rfl (List.mem_of_getElem? (i := 171) rfl) rfl
theorem mw_176 : (.methodLink RX0 32 yX0_forget : Cond) ∈ gwL := gw_at 2 (z := tables_1_2) rfl (List.mem_of_getElem? (i := 168) rfl) rfl
theorem mw_177 : (.instanceMethod yX0_forget : Cond) ∈ gwL := gw_at 2 (z := tables_1_2) rfl (List.mem_of_getElem? (i := 170) rfl) rfl
theorem mw_178 : (.selects RX0 yX0_forget yX0_forget : Cond) ∈ gwL := gw_at 0 (z := (k2_sels lw_privs)) rfl (List.mem_of_getElem? (i := 0) rfl) rfl
theorem mw_179 : (.code yX7_hasPlaces cX7_hasPlaces 3 (some .boolean) : Cond) ∈ gwL := gw_at 2 (z := tables_1_2) rfl (List.mem_of_getElem? (i := 186) rfl) rfl
theorem mw_180 : (.methodLink RX11 295 yX7_hasPlaces : Cond) ∈ gwL := gw_at 2 (z := tables_1_2) rfl (List.mem_of_getElem? (i := 183) rfl) rfl
theorem mw_181 : (.instanceMethod yX7_hasPlaces : Cond) ∈ gwL := gw_at 2 (z := tables_1_2) rfl (List.mem_of_getElem? (i := 184) rfl) rfl
theorem mw_182 : (.selects RX7 yX7_hasPlaces yX7_hasPlaces : Cond) ∈ gwL := gw_at 2 (z := tables_1_2) rfl (List.mem_of_getElem? (i := 185) rfl) rfl
theorem mw_183 : (.code yX6_reachedAhead cX6_reachedAhead 8 (some .long) : Cond) ∈ gwL := gw_at 4 (z := tables_1_4) rfl (List.mem_of_getElem? (i := 97) rfl) rfl
theorem mw_184 : (.methodLink RX6 23 yX6_reachedAhead : Cond) ∈ gwL := gw_at 4 (z := tables_1_4) rfl (List.mem_of_getElem? (i := 94) rfl) rfl
theorem mw_185 : (.instanceMethod yX6_reachedAhead : Cond) ∈ gwL := gw_at 4 (z := tables_1_4) rfl (List.mem_of_getElem? (i := 96) rfl) rfl
theorem mw_186 : (.selects RX6 yX6_reachedAhead yX6_reachedAhead : Cond) ∈ gwL := gw_at 0 (z := (k2_sels lw_privs)) rfl (List.mem_of_getElem? (i := 36) rfl) rfl
theorem mw_187 : (.initialized RX6 : Cond) ∈ gwL := gw_at 1 (z := tables_1_1) rfl (List.mem_of_getElem? (i := 8) rfl) rfl
theorem mw_188 : (.code yX3_ownerOf cX3_ownerOf 4 (some .int) : Cond) ∈ gwL := gw_at 4 (z := tables_1_4) rfl (List.mem_of_getElem? (i := 229) rfl) rfl
theorem mw_189 : (.methodLink RX3 38 yX3_ownerOf : Cond) ∈ gwL := gw_at 4 (z := tables_1_4) rfl (List.mem_of_getElem? (i := 227) rfl) rfl
theorem mw_190 : (.static yX3_ownerOf : Cond) ∈ gwL := gw_at 4 (z := tables_1_4) rfl (List.mem_of_getElem? (i := 228) rfl) rfl
theorem mw_191 : (.fieldLink RX3 15 "SetAgain$Desks" "trace" "[I" : Cond) ∈ gwL := gw_at 2 (z := tables_1_2) rfl (List.mem_of_getElem? (i := 69) rfl) rfl
theorem mw_192 : (.code yX4_standAsNow cX4_standAsNow 2 none : Cond) ∈ gwL := gw_at 3 (z := tables_1_3) rfl (List.mem_of_getElem? (i := 206) rfl) rfl
theorem mw_193 : (.methodLink RX4 42 yX4_standAsNow : Cond) ∈ gwL := gw_at 3 (z := tables_1_3) rfl (List.mem_of_getElem? (i := 203) rfl) rfl
theorem mw_194 : (.instanceMethod yX4_standAsNow : Cond) ∈ gwL := gw_at 3 (z := tables_1_3) rfl (List.mem_of_getElem? (i := 205) rfl) rfl
theorem mw_195 : (.selects RX4 yX4_standAsNow yX4_standAsNow : Cond) ∈ gwL := gw_at 0 (z := (k2_sels lw_privs)) rfl (List.mem_of_getElem? (i := 25) rfl) rfl
theorem mw_196 : (.initialized RX4 : Cond) ∈ gwL := gw_at 1 (z := tables_1_1) rfl (List.mem_of_getElem? (i := 5) rfl) rfl
theorem mw_197 : (.code yX10_reads cX10_reads 5 none : Cond) ∈ gwL := gw_at 3 (z := tables_1_3) rfl (List.mem_of_getElem? (i := 114) rfl) rfl
theorem mw_198 : (.methodLink RX11 320 yX10_reads : Cond) ∈ gwL := gw_at 3 (z := tables_1_3) rfl (List.mem_of_getElem? (i := 111) rfl) rfl
theorem mw_199 : (.instanceMethod yX10_reads : Cond) ∈ gwL := gw_at 3 (z := tables_1_3) rfl (List.mem_of_getElem? (i := 112) rfl) rfl
theorem mw_200 : (.selects RX10 yX10_reads yX10_reads : Cond) ∈ gwL := gw_at 3 (z := tables_1_3) rfl (List.mem_of_getElem? (i := 113) rfl) rfl
theorem mw_201 : (.initialized RX10 : Cond) ∈ gwL := gw_at 1 (z := tables_1_1) rfl (List.mem_of_getElem? (i := 4) rfl) rfl
theorem mw_202 : (.code yX4_begin cX4_begin 2 none : Cond) ∈ gwL := gw_at 3 (z := tables_1_3) rfl (List.mem_of_getElem? (i := 202) rfl) rfl
theorem mw_203 : (.methodLink RX2 29 yX4_begin : Cond) ∈ gwL := gw_at 4 (z := tables_1_4) rfl (List.mem_of_getElem? (i := 154) rfl) rfl
theorem mw_204 : (.instanceMethod yX4_begin : Cond) ∈ gwL := gw_at 3 (z := tables_1_3) rfl (List.mem_of_getElem? (i := 200) rfl) rfl
theorem mw_205 : (.selects RX4 yX4_begin yX4_begin : Cond) ∈ gwL := gw_at 3 (z := tables_1_3) rfl (List.mem_of_getElem? (i := 201) rfl) rfl
theorem mw_206 : (.code yX7_isRow cX7_isRow 1 (some .boolean) : Cond) ∈ gwL := gw_at 5 (z := tables_1_5) rfl (List.mem_of_getElem? (i := 29) rfl) rfl
theorem mw_207 : (.methodLink RX11 291 yX7_isRow : Cond) ∈ gwL := gw_at 5 (z := tables_1_5) rfl (List.mem_of_getElem? (i := 26) rfl) rfl
theorem mw_208 : (.instanceMethod yX7_isRow : Cond) ∈ gwL := gw_at 5 (z := tables_1_5) rfl (List.mem_of_getElem? (i := 27) rfl) rfl
theorem mw_209 : (.selects RX7 yX7_isRow yX7_isRow : Cond) ∈ gwL := gw_at 5 (z := tables_1_5) rfl (List.mem_of_getElem? (i := 28) rfl) rfl
theorem mw_210 : (.fieldLink RX11 304 "SetAgain$Shelf" "desk" "I" : Cond) ∈ gwL := gw_at 2 (z := tables_1_2) rfl (List.mem_of_getElem? (i := 108) rfl) rfl
theorem mw_211 : (.methodLink RX11 298 arraycopyName : Cond) ∈ gwL := gw_at 5 (z := tables_1_5) rfl (List.mem_of_getElem? (i := 43) rfl) rfl
theorem mw_212 : (.code yX7_cut cX7_cut 3 (some .long) : Cond) ∈ gwL := gw_at 5 (z := tables_1_5) rfl (List.mem_of_getElem? (i := 33) rfl) rfl
theorem mw_213 : (.methodLink RX11 285 yX7_cut : Cond) ∈ gwL := gw_at 5 (z := tables_1_5) rfl (List.mem_of_getElem? (i := 30) rfl) rfl
theorem mw_214 : (.instanceMethod yX7_cut : Cond) ∈ gwL := gw_at 5 (z := tables_1_5) rfl (List.mem_of_getElem? (i := 31) rfl) rfl
theorem mw_215 : (.selects RX7 yX7_cut yX7_cut : Cond) ∈ gwL := gw_at 5 (z := tables_1_5) rfl (List.mem_of_getElem? (i := 32) rfl) rfl
theorem mw_216 : (.fieldLink RX11 268 "SetAgain$Desks" "trace" "[I" : Cond) ∈ gwL := gw_at 2 (z := tables_1_2) rfl (List.mem_of_getElem? (i := 70) rfl) rfl
theorem mw_217 : (.fieldLink RX11 241 "SetAgain$Changes" "places" "[I" : Cond) ∈ gwL := gw_at 2 (z := tables_1_2) rfl (List.mem_of_getElem? (i := 42) rfl) rfl
theorem mw_218 : (.fieldLink RX11 250 "SetAgain$Changes" "after" "[I" : Cond) ∈ gwL := gw_at 2 (z := tables_1_2) rfl (List.mem_of_getElem? (i := 46) rfl) rfl
theorem mw_219 : (.fieldLink RX11 244 "SetAgain$Changes" "before" "[I" : Cond) ∈ gwL := gw_at 2 (z := tables_1_2) rfl (List.mem_of_getElem? (i := 44) rfl) rfl
theorem mw_220 : (.fieldLink RX11 35 "SetAgain" "still" "LSetAgain$Still;" : Cond) ∈ gwL := gw_at 2 (z := tables_1_2) rfl (List.mem_of_getElem? (i := 122) rfl) rfl
theorem mw_221 : (.fieldLink RX11 42 "SetAgain" "turning" "LSetAgain$Turning;" : Cond) ∈ gwL := gw_at 2 (z := tables_1_2) rfl (List.mem_of_getElem? (i := 123) rfl) rfl
theorem mw_222 : (.fieldLink RX11 159 "SetAgain$Week" "sat" "I" : Cond) ∈ gwL := gw_at 1 (z := tables_1_1) rfl (List.mem_of_getElem? (i := 114) rfl) rfl
theorem mw_223 : (.code yX1_comes cX1_comes 4 none : Cond) ∈ gwL := gw_at 2 (z := tables_1_2) rfl (List.mem_of_getElem? (i := 202) rfl) rfl
theorem mw_224 : (.methodLink RX11 116 yX1_comes : Cond) ∈ gwL := gw_at 2 (z := tables_1_2) rfl (List.mem_of_getElem? (i := 199) rfl) rfl
theorem mw_225 : (.instanceMethod yX1_comes : Cond) ∈ gwL := gw_at 2 (z := tables_1_2) rfl (List.mem_of_getElem? (i := 200) rfl) rfl
theorem mw_226 : (.selects RX1 yX1_comes yX1_comes : Cond) ∈ gwL := gw_at 2 (z := tables_1_2) rfl (List.mem_of_getElem? (i := 201) rfl) rfl
theorem mw_227 : (.initialized RX1 : Cond) ∈ gwL := gw_at 1 (z := tables_1_1) rfl (List.mem_of_getElem? (i := 10) rfl) rfl
theorem mw_228 : (.code yX11_fromRow cX11_fromRow 6 (some .int) : Cond) ∈ gwL := gw_at 2 (z := tables_1_2) rfl (List.mem_of_getElem? (i := 182) rfl) rfl
theorem mw_229 : (.methodLink RX11 104 yX11_fromRow : Cond) ∈ gwL := gw_at 2 (z := tables_1_2) rfl (List.mem_of_getElem? (i := 179) rfl) rfl
theorem mw_230 : (.instanceMethod yX11_fromRow : Cond) ∈ gwL := gw_at 2 (z := tables_1_2) rfl (List.mem_of_getElem? (i := 181) rfl) rfl
theorem mw_231 : (.selects RX11 yX11_fromRow yX11_fromRow : Cond) ∈ gwL := gw_at 0 (z := (k2_sels lw_privs)) rfl (List.mem_of_getElem? (i := 1) rfl) rfl
theorem mw_232 : (.code yX0_comes cX0_comes 6 (some .int) : Cond) ∈ gwL := gw_at 2 (z := tables_1_2) rfl (List.mem_of_getElem? (i := 167) rfl) rfl
theorem mw_233 : (.methodLink RX11 93 yX0_comes : Cond) ∈ gwL := gw_at 2 (z := tables_1_2) rfl (List.mem_of_getElem? (i := 164) rfl) rfl
theorem mw_234 : (.instanceMethod yX0_comes : Cond) ∈ gwL := gw_at 2 (z := tables_1_2) rfl (List.mem_of_getElem? (i := 165) rfl) rfl
theorem mw_235 : (.selects RX0 yX0_comes yX0_comes : Cond) ∈ gwL := gw_at 2 (z := tables_1_2) rfl (List.mem_of_getElem? (i := 166) rfl) rfl
theorem mw_236 : (.methodLink RX11 328 yX4_begin : Cond) ∈ gwL := gw_at 4 (z := tables_1_4) rfl (List.mem_of_getElem? (i := 134) rfl) rfl
theorem mw_237 : (.fieldLink RX11 331 "SetAgain$Week" "sitters" "[I" : Cond) ∈ gwL := gw_at 1 (z := tables_1_1) rfl (List.mem_of_getElem? (i := 106) rfl) rfl
theorem mw_238 : (.constantLong RX6 46 (2305843009213693951) : Cond) ∈ gwL := gw_at 4 (z := tables_1_4) rfl (List.mem_of_getElem? (i := 114) rfl) rfl
theorem mw_239 : (.fieldLink RX6 48 "SetAgain$Shelf" "length" "I" : Cond) ∈ gwL := gw_at 2 (z := tables_1_2) rfl (List.mem_of_getElem? (i := 105) rfl) rfl
theorem mw_240 : (.methodLink RX6 53 Lib.Math.min.name : Cond) ∈ gwL := gw_at 4 (z := tables_1_4) rfl (List.mem_of_getElem? (i := 120) rfl) rfl
theorem mw_241 : (.fieldLink RX4 21 "SetAgain$Habits" "tried" "I" : Cond) ∈ gwL := gw_at 1 (z := tables_1_1) rfl (List.mem_of_getElem? (i := 143) rfl) rfl
theorem mw_242 : (.code yX0_numberOf cX0_numberOf 3 (some .int) : Cond) ∈ gwL := gw_at 3 (z := tables_1_3) rfl (List.mem_of_getElem? (i := 75) rfl) rfl
theorem mw_243 : (.methodLink RX4 74 yX0_numberOf : Cond) ∈ gwL := gw_at 3 (z := tables_1_3) rfl (List.mem_of_getElem? (i := 215) rfl) rfl
theorem mw_244 : (.instanceMethod yX0_numberOf : Cond) ∈ gwL := gw_at 3 (z := tables_1_3) rfl (List.mem_of_getElem? (i := 73) rfl) rfl
theorem mw_245 : (.selects RX0 yX0_numberOf yX0_numberOf : Cond) ∈ gwL := gw_at 3 (z := tables_1_3) rfl (List.mem_of_getElem? (i := 74) rfl) rfl
theorem mw_246 : (.methodLink RX4 50 yX4_begin : Cond) ∈ gwL := gw_at 3 (z := tables_1_3) rfl (List.mem_of_getElem? (i := 199) rfl) rfl
theorem mw_247 : (.fieldLink RX4 32 "SetAgain$Habits" "week" "LSetAgain$Week;" : Cond) ∈ gwL := gw_at 1 (z := tables_1_1) rfl (List.mem_of_getElem? (i := 131) rfl) rfl
theorem mw_248 : (.fieldLink RX4 111 "SetAgain$Week" "length" "I" : Cond) ∈ gwL := gw_at 1 (z := tables_1_1) rfl (List.mem_of_getElem? (i := 111) rfl) rfl
theorem mw_249 : (.fieldLink RX4 53 "SetAgain$Week" "sitters" "[I" : Cond) ∈ gwL := gw_at 1 (z := tables_1_1) rfl (List.mem_of_getElem? (i := 105) rfl) rfl
theorem mw_250 : (.constant RX4 127 (1103515245) : Cond) ∈ gwL := gw_at 4 (z := tables_1_4) rfl (List.mem_of_getElem? (i := 145) rfl) rfl
theorem mw_251 : (.fieldLink RX4 71 "SetAgain$Habits" "triedNear" "I" : Cond) ∈ gwL := gw_at 1 (z := tables_1_1) rfl (List.mem_of_getElem? (i := 144) rfl) rfl
theorem mw_252 : (.fieldLink RX8 38 "SetAgain$Still" "week" "LSetAgain$Week;" : Cond) ∈ gwL := gw_at 1 (z := tables_1_1) rfl (List.mem_of_getElem? (i := 177) rfl) rfl
theorem mw_253 : (.fieldLink RX8 42 "SetAgain$Week" "times" "[I" : Cond) ∈ gwL := gw_at 1 (z := tables_1_1) rfl (List.mem_of_getElem? (i := 108) rfl) rfl
theorem mw_254 : (.fieldLink RX8 34 "SetAgain$Still" "chair" "LSetAgain$Chair;" : Cond) ∈ gwL := gw_at 1 (z := tables_1_1) rfl (List.mem_of_getElem? (i := 176) rfl) rfl
theorem mw_255 : (.methodLink RX8 47 yX0_lossAt : Cond) ∈ gwL := gw_at 3 (z := tables_1_3) rfl (List.mem_of_getElem? (i := 120) rfl) rfl
theorem mw_256 : (.fieldLink RX9 19 "SetAgain$Turning" "week" "LSetAgain$Week;" : Cond) ∈ gwL := gw_at 1 (z := tables_1_1) rfl (List.mem_of_getElem? (i := 224) rfl) rfl
theorem mw_257 : (.fieldLink RX9 40 "SetAgain$Week" "length" "I" : Cond) ∈ gwL := gw_at 1 (z := tables_1_1) rfl (List.mem_of_getElem? (i := 110) rfl) rfl
theorem mw_258 : (.fieldLink RX9 9 "SetAgain$Turning" "ahead" "[I" : Cond) ∈ gwL := gw_at 1 (z := tables_1_1) rfl (List.mem_of_getElem? (i := 225) rfl) rfl
theorem mw_259 : (.fieldLink RX8 96 "SetAgain$Still" "sitting" "I" : Cond) ∈ gwL := gw_at 1 (z := tables_1_1) rfl (List.mem_of_getElem? (i := 185) rfl) rfl
theorem mw_260 : (.fieldLink RX8 19 "SetAgain$Still" "ones" "[I" : Cond) ∈ gwL := gw_at 1 (z := tables_1_1) rfl (List.mem_of_getElem? (i := 180) rfl) rfl
theorem mw_261 : (.methodLink RX0 42 yX0_numberOf : Cond) ∈ gwL := gw_at 3 (z := tables_1_3) rfl (List.mem_of_getElem? (i := 72) rfl) rfl
theorem mw_262 : (.methodLink RX0 45 Lib.Math.abs.name : Cond) ∈ gwL := gw_at 3 (z := tables_1_3) rfl (List.mem_of_getElem? (i := 92) rfl) rfl
theorem mw_263 : (.fieldLink RX6 63 "SetAgain$Shelf" "elements" "[J" : Cond) ∈ gwL := gw_at 2 (z := tables_1_2) rfl (List.mem_of_getElem? (i := 99) rfl) rfl
theorem mw_264 : (.constantLong RX6 67 (-1) : Cond) ∈ gwL := gw_at 4 (z := tables_1_4) rfl (List.mem_of_getElem? (i := 113) rfl) rfl
theorem mw_265 : (.constantLong RX6 69 (60) : Cond) ∈ gwL := gw_at 4 (z := tables_1_4) rfl (List.mem_of_getElem? (i := 115) rfl) rfl
theorem mw_266 : (.methodLink RX6 74 yX0_slipped : Cond) ∈ gwL := gw_at 4 (z := tables_1_4) rfl (List.mem_of_getElem? (i := 106) rfl) rfl
theorem mw_267 : (.code yX9_pay cX9_pay 6 none : Cond) ∈ gwL := gw_at 3 (z := tables_1_3) rfl (List.mem_of_getElem? (i := 159) rfl) rfl
theorem mw_268 : (.methodLink RX9 23 yX9_pay : Cond) ∈ gwL := gw_at 3 (z := tables_1_3) rfl (List.mem_of_getElem? (i := 156) rfl) rfl
theorem mw_269 : (.instanceMethod yX9_pay : Cond) ∈ gwL := gw_at 3 (z := tables_1_3) rfl (List.mem_of_getElem? (i := 158) rfl) rfl
theorem mw_270 : (.selects RX9 yX9_pay yX9_pay : Cond) ∈ gwL := gw_at 0 (z := (k2_sels lw_privs)) rfl (List.mem_of_getElem? (i := 21) rfl) rfl
theorem mw_271 : (.initialized RX9 : Cond) ∈ gwL := gw_at 1 (z := tables_1_1) rfl (List.mem_of_getElem? (i := 7) rfl) rfl
theorem mw_272 : (.fieldLink RX9 15 "SetAgain$Turning" "chair" "LSetAgain$Chair;" : Cond) ∈ gwL := gw_at 1 (z := tables_1_1) rfl (List.mem_of_getElem? (i := 223) rfl) rfl
theorem mw_273 : (.fieldLink RX9 27 "SetAgain$Chair" "stands" "[I" : Cond) ∈ gwL := gw_at 1 (z := tables_1_1) rfl (List.mem_of_getElem? (i := 74) rfl) rfl
theorem mw_274 : (.code yX4_live cX4_live 3 none : Cond) ∈ gwL := gw_at 3 (z := tables_1_3) rfl (List.mem_of_getElem? (i := 198) rfl) rfl
theorem mw_275 : (.methodLink RX4 114 yX4_live : Cond) ∈ gwL := gw_at 4 (z := tables_1_4) rfl (List.mem_of_getElem? (i := 17) rfl) rfl
theorem mw_276 : (.instanceMethod yX4_live : Cond) ∈ gwL := gw_at 3 (z := tables_1_3) rfl (List.mem_of_getElem? (i := 196) rfl) rfl
theorem mw_277 : (.selects RX4 yX4_live yX4_live : Cond) ∈ gwL := gw_at 3 (z := tables_1_3) rfl (List.mem_of_getElem? (i := 197) rfl) rfl
theorem mw_278 : (.fieldLink RX4 117 "SetAgain$Chair" "sitters" "I" : Cond) ∈ gwL := gw_at 1 (z := tables_1_1) rfl (List.mem_of_getElem? (i := 83) rfl) rfl
theorem mw_279 : (.code yX8_gather cX8_gather 2 none : Cond) ∈ gwL := gw_at 4 (z := tables_1_4) rfl (List.mem_of_getElem? (i := 55) rfl) rfl
theorem mw_280 : (.methodLink RX8 72 yX8_gather : Cond) ∈ gwL := gw_at 4 (z := tables_1_4) rfl (List.mem_of_getElem? (i := 52) rfl) rfl
theorem mw_281 : (.instanceMethod yX8_gather : Cond) ∈ gwL := gw_at 4 (z := tables_1_4) rfl (List.mem_of_getElem? (i := 54) rfl) rfl
theorem mw_282 : (.selects RX8 yX8_gather yX8_gather : Cond) ∈ gwL := gw_at 0 (z := (k2_sels lw_privs)) rfl (List.mem_of_getElem? (i := 30) rfl) rfl
theorem mw_283 : (.initialized RX8 : Cond) ∈ gwL := gw_at 1 (z := tables_1_1) rfl (List.mem_of_getElem? (i := 6) rfl) rfl
theorem mw_284 : (.fieldLink RX4 25 "SetAgain$Habits" "leaver" "I" : Cond) ∈ gwL := gw_at 1 (z := tables_1_1) rfl (List.mem_of_getElem? (i := 145) rfl) rfl
theorem mw_285 : (.fieldLink RX4 98 "SetAgain$Habits" "left" "I" : Cond) ∈ gwL := gw_at 1 (z := tables_1_1) rfl (List.mem_of_getElem? (i := 146) rfl) rfl
theorem mw_286 : (.code yX0_turned cX0_turned 6 (some .int) : Cond) ∈ gwL := gw_at 3 (z := tables_1_3) rfl (List.mem_of_getElem? (i := 219) rfl) rfl
theorem mw_287 : (.methodLink RX4 78 yX0_turned : Cond) ∈ gwL := gw_at 3 (z := tables_1_3) rfl (List.mem_of_getElem? (i := 216) rfl) rfl
theorem mw_288 : (.instanceMethod yX0_turned : Cond) ∈ gwL := gw_at 3 (z := tables_1_3) rfl (List.mem_of_getElem? (i := 217) rfl) rfl
theorem mw_289 : (.selects RX0 yX0_turned yX0_turned : Cond) ∈ gwL := gw_at 3 (z := tables_1_3) rfl (List.mem_of_getElem? (i := 218) rfl) rfl
theorem mw_290 : (.code yX6_asSeen cX6_asSeen 4 (some .long) : Cond) ∈ gwL := gw_at 4 (z := tables_1_4) rfl (List.mem_of_getElem? (i := 112) rfl) rfl
theorem mw_291 : (.methodLink RX6 43 yX6_asSeen : Cond) ∈ gwL := gw_at 4 (z := tables_1_4) rfl (List.mem_of_getElem? (i := 109) rfl) rfl
theorem mw_292 : (.instanceMethod yX6_asSeen : Cond) ∈ gwL := gw_at 4 (z := tables_1_4) rfl (List.mem_of_getElem? (i := 111) rfl) rfl
theorem mw_293 : (.selects RX6 yX6_asSeen yX6_asSeen : Cond) ∈ gwL := gw_at 0 (z := (k2_sels lw_privs)) rfl (List.mem_of_getElem? (i := 39) rfl) rfl
theorem mw_294 : (.code yX6_behindShift cX6_behindShift 3 (some .int) : Cond) ∈ gwL := gw_at 4 (z := tables_1_4) rfl (List.mem_of_getElem? (i := 105) rfl) rfl
theorem mw_295 : (.methodLink RX6 71 yX6_behindShift : Cond) ∈ gwL := gw_at 4 (z := tables_1_4) rfl (List.mem_of_getElem? (i := 102) rfl) rfl
theorem mw_296 : (.instanceMethod yX6_behindShift : Cond) ∈ gwL := gw_at 4 (z := tables_1_4) rfl (List.mem_of_getElem? (i := 104) rfl) rfl
theorem mw_297 : (.selects RX6 yX6_behindShift yX6_behindShift : Cond) ∈ gwL := gw_at 0 (z := (k2_sels lw_privs)) rfl (List.mem_of_getElem? (i := 38) rfl) rfl
theorem mw_298 : (.code yX6_allBehind cX6_allBehind 7 (some .long) : Cond) ∈ gwL := gw_at 4 (z := tables_1_4) rfl (List.mem_of_getElem? (i := 101) rfl) rfl
theorem mw_299 : (.methodLink RX6 35 yX6_allBehind : Cond) ∈ gwL := gw_at 4 (z := tables_1_4) rfl (List.mem_of_getElem? (i := 98) rfl) rfl
theorem mw_300 : (.instanceMethod yX6_allBehind : Cond) ∈ gwL := gw_at 4 (z := tables_1_4) rfl (List.mem_of_getElem? (i := 100) rfl) rfl
theorem mw_301 : (.selects RX6 yX6_allBehind yX6_allBehind : Cond) ∈ gwL := gw_at 0 (z := (k2_sels lw_privs)) rfl (List.mem_of_getElem? (i := 37) rfl) rfl
theorem mw_302 : (.code yX11_comesFrom cX11_comesFrom 6 (some .boolean) : Cond) ∈ gwL := gw_at 2 (z := tables_1_2) rfl (List.mem_of_getElem? (i := 190) rfl) rfl
theorem mw_303 : (.methodLink RX11 324 yX11_comesFrom : Cond) ∈ gwL := gw_at 2 (z := tables_1_2) rfl (List.mem_of_getElem? (i := 187) rfl) rfl
theorem mw_304 : (.instanceMethod yX11_comesFrom : Cond) ∈ gwL := gw_at 2 (z := tables_1_2) rfl (List.mem_of_getElem? (i := 189) rfl) rfl
theorem mw_305 : (.selects RX11 yX11_comesFrom yX11_comesFrom : Cond) ∈ gwL := gw_at 0 (z := (k2_sels lw_privs)) rfl (List.mem_of_getElem? (i := 2) rfl) rfl
theorem mw_306 : (.code yX6_fittingBehind cX6_fittingBehind 5 (some .long) : Cond) ∈ gwL := gw_at 4 (z := tables_1_4) rfl (List.mem_of_getElem? (i := 119) rfl) rfl
theorem mw_307 : (.methodLink RX6 27 yX6_fittingBehind : Cond) ∈ gwL := gw_at 4 (z := tables_1_4) rfl (List.mem_of_getElem? (i := 116) rfl) rfl
theorem mw_308 : (.instanceMethod yX6_fittingBehind : Cond) ∈ gwL := gw_at 4 (z := tables_1_4) rfl (List.mem_of_getElem? (i := 118) rfl) rfl
theorem mw_309 : (.selects RX6 yX6_fittingBehind yX6_fittingBehind : Cond) ∈ gwL := gw_at 0 (z := (k2_sels lw_privs)) rfl (List.mem_of_getElem? (i := 40) rfl) rfl
theorem mw_310 : (.code yX3_runs cX3_runs 5 (some .int) : Cond) ∈ gwL := gw_at 4 (z := tables_1_4) rfl (List.mem_of_getElem? (i := 237) rfl) rfl
theorem mw_311 : (.methodLink RX3 45 yX3_runs : Cond) ∈ gwL := gw_at 4 (z := tables_1_4) rfl (List.mem_of_getElem? (i := 234) rfl) rfl
theorem mw_312 : (.instanceMethod yX3_runs : Cond) ∈ gwL := gw_at 4 (z := tables_1_4) rfl (List.mem_of_getElem? (i := 236) rfl) rfl
theorem mw_313 : (.selects RX3 yX3_runs yX3_runs : Cond) ∈ gwL := gw_at 0 (z := (k2_sels lw_privs)) rfl (List.mem_of_getElem? (i := 44) rfl) rfl
theorem mw_314 : (.fieldLink RX0 21 "SetAgain$Chair" "law" "LSetAgain$Law;" : Cond) ∈ gwL := gw_at 1 (z := tables_1_1) rfl (List.mem_of_getElem? (i := 79) rfl) rfl
theorem mw_315 : (.fieldLink RX0 49 "SetAgain$Law" "holds" "Z" : Cond) ∈ gwL := gw_at 1 (z := tables_1_1) rfl (List.mem_of_getElem? (i := 41) rfl) rfl
theorem mw_316 : (.methodLink RX0 57 Lib.Math.min.name : Cond) ∈ gwL := gw_at 3 (z := tables_1_3) rfl (List.mem_of_getElem? (i := 93) rfl) rfl
theorem mw_317 : (.code yX3_does cX3_does 7 (some .int) : Cond) ∈ gwL := gw_at 4 (z := tables_1_4) rfl (List.mem_of_getElem? (i := 226) rfl) rfl
theorem mw_318 : (.methodLink RX3 34 yX3_does : Cond) ∈ gwL := gw_at 4 (z := tables_1_4) rfl (List.mem_of_getElem? (i := 223) rfl) rfl
theorem mw_319 : (.instanceMethod yX3_does : Cond) ∈ gwL := gw_at 4 (z := tables_1_4) rfl (List.mem_of_getElem? (i := 225) rfl) rfl
theorem mw_320 : (.selects RX3 yX3_does yX3_does : Cond) ∈ gwL := gw_at 0 (z := (k2_sels lw_privs)) rfl (List.mem_of_getElem? (i := 43) rfl) rfl
theorem mw_321 : (.code yX3_takenFor cX3_takenFor 5 (some .int) : Cond) ∈ gwL := gw_at 5 (z := tables_1_5) rfl (List.mem_of_getElem? (i := 51) rfl) rfl
theorem mw_322 : (.methodLink RX11 307 yX3_takenFor : Cond) ∈ gwL := gw_at 5 (z := tables_1_5) rfl (List.mem_of_getElem? (i := 48) rfl) rfl
theorem mw_323 : (.instanceMethod yX3_takenFor : Cond) ∈ gwL := gw_at 5 (z := tables_1_5) rfl (List.mem_of_getElem? (i := 49) rfl) rfl
theorem mw_324 : (.selects RX3 yX3_takenFor yX3_takenFor : Cond) ∈ gwL := gw_at 5 (z := tables_1_5) rfl (List.mem_of_getElem? (i := 50) rfl) rfl
theorem mw_325 : (.code yX0_becomes cX0_becomes 3 none : Cond) ∈ gwL := gw_at 2 (z := tables_1_2) rfl (List.mem_of_getElem? (i := 213) rfl) rfl
theorem mw_326 : (.methodLink RX11 119 yX0_becomes : Cond) ∈ gwL := gw_at 2 (z := tables_1_2) rfl (List.mem_of_getElem? (i := 210) rfl) rfl
theorem mw_327 : (.instanceMethod yX0_becomes : Cond) ∈ gwL := gw_at 2 (z := tables_1_2) rfl (List.mem_of_getElem? (i := 211) rfl) rfl
theorem mw_328 : (.selects RX0 yX0_becomes yX0_becomes : Cond) ∈ gwL := gw_at 2 (z := tables_1_2) rfl (List.mem_of_getElem? (i := 212) rfl) rfl
theorem mw_329 : (.code yX4_drawWeeks cX4_drawWeeks 8 (some .int) : Cond) ∈ gwL := gw_at 4 (z := tables_1_4) rfl (List.mem_of_getElem? (i := 144) rfl) rfl
theorem mw_330 : (.methodLink RX11 220 yX4_drawWeeks : Cond) ∈ gwL := gw_at 4 (z := tables_1_4) rfl (List.mem_of_getElem? (i := 141) rfl) rfl
theorem mw_331 : (.instanceMethod yX4_drawWeeks : Cond) ∈ gwL := gw_at 4 (z := tables_1_4) rfl (List.mem_of_getElem? (i := 142) rfl) rfl
theorem mw_332 : (.selects RX4 yX4_drawWeeks yX4_drawWeeks : Cond) ∈ gwL := gw_at 4 (z := tables_1_4) rfl (List.mem_of_getElem? (i := 143) rfl) rfl
theorem mw_333 : (.fieldLink RX11 187 "SetAgain$Habits" "costs" "I" : Cond) ∈ gwL := gw_at 1 (z := tables_1_1) rfl (List.mem_of_getElem? (i := 142) rfl) rfl
theorem mw_334 : (.code yX11_firstUnlike cX11_firstUnlike 5 (some .int) : Cond) ∈ gwL := gw_at 4 (z := tables_1_4) rfl (List.mem_of_getElem? (i := 132) rfl) rfl
theorem mw_335 : (.methodLink RX11 216 yX11_firstUnlike : Cond) ∈ gwL := gw_at 4 (z := tables_1_4) rfl (List.mem_of_getElem? (i := 129) rfl) rfl
theorem mw_336 : (.instanceMethod yX11_firstUnlike : Cond) ∈ gwL := gw_at 4 (z := tables_1_4) rfl (List.mem_of_getElem? (i := 131) rfl) rfl
theorem mw_337 : (.selects RX11 yX11_firstUnlike yX11_firstUnlike : Cond) ∈ gwL := gw_at 0 (z := (k2_sels lw_privs)) rfl (List.mem_of_getElem? (i := 42) rfl) rfl
theorem mw_338 : (.code yX6_mayHaveSat cX6_mayHaveSat 10 (some .int) : Cond) ∈ gwL := gw_at 4 (z := tables_1_4) rfl (List.mem_of_getElem? (i := 93) rfl) rfl
theorem mw_339 : (.methodLink RX11 213 yX6_mayHaveSat : Cond) ∈ gwL := gw_at 4 (z := tables_1_4) rfl (List.mem_of_getElem? (i := 90) rfl) rfl
theorem mw_340 : (.instanceMethod yX6_mayHaveSat : Cond) ∈ gwL := gw_at 4 (z := tables_1_4) rfl (List.mem_of_getElem? (i := 91) rfl) rfl
theorem mw_341 : (.selects RX6 yX6_mayHaveSat yX6_mayHaveSat : Cond) ∈ gwL := gw_at 4 (z := tables_1_4) rfl (List.mem_of_getElem? (i := 92) rfl) rfl
theorem mw_342 : (.code yX4_moreByWilful cX4_moreByWilful 4 (some .int) : Cond) ∈ gwL := gw_at 4 (z := tables_1_4) rfl (List.mem_of_getElem? (i := 85) rfl) rfl
theorem mw_343 : (.methodLink RX11 206 yX4_moreByWilful : Cond) ∈ gwL := gw_at 4 (z := tables_1_4) rfl (List.mem_of_getElem? (i := 82) rfl) rfl
theorem mw_344 : (.instanceMethod yX4_moreByWilful : Cond) ∈ gwL := gw_at 4 (z := tables_1_4) rfl (List.mem_of_getElem? (i := 83) rfl) rfl
theorem mw_345 : (.selects RX4 yX4_moreByWilful yX4_moreByWilful : Cond) ∈ gwL := gw_at 4 (z := tables_1_4) rfl (List.mem_of_getElem? (i := 84) rfl) rfl
theorem mw_346 : (.code yX4_bestMemories cX4_bestMemories 9 (some .int) : Cond) ∈ gwL := gw_at 4 (z := tables_1_4) rfl (List.mem_of_getElem? (i := 25) rfl) rfl
theorem mw_347 : (.methodLink RX11 196 yX4_bestMemories : Cond) ∈ gwL := gw_at 4 (z := tables_1_4) rfl (List.mem_of_getElem? (i := 22) rfl) rfl
theorem mw_348 : (.instanceMethod yX4_bestMemories : Cond) ∈ gwL := gw_at 4 (z := tables_1_4) rfl (List.mem_of_getElem? (i := 23) rfl) rfl
theorem mw_349 : (.selects RX4 yX4_bestMemories yX4_bestMemories : Cond) ∈ gwL := gw_at 4 (z := tables_1_4) rfl (List.mem_of_getElem? (i := 24) rfl) rfl
theorem mw_350 : (.code yX4_bestNear cX4_bestNear 6 (some .int) : Cond) ∈ gwL := gw_at 4 (z := tables_1_4) rfl (List.mem_of_getElem? (i := 16) rfl) rfl
theorem mw_351 : (.methodLink RX11 193 yX4_bestNear : Cond) ∈ gwL := gw_at 4 (z := tables_1_4) rfl (List.mem_of_getElem? (i := 13) rfl) rfl
theorem mw_352 : (.instanceMethod yX4_bestNear : Cond) ∈ gwL := gw_at 4 (z := tables_1_4) rfl (List.mem_of_getElem? (i := 14) rfl) rfl
theorem mw_353 : (.selects RX4 yX4_bestNear yX4_bestNear : Cond) ∈ gwL := gw_at 4 (z := tables_1_4) rfl (List.mem_of_getElem? (i := 15) rfl) rfl
theorem mw_354 : (.methodLink RX11 177 yX4_live : Cond) ∈ gwL := gw_at 3 (z := tables_1_3) rfl (List.mem_of_getElem? (i := 195) rfl) rfl
theorem mw_355 : (.fieldLink RX11 190 "SetAgain$Habits" "stand" "[I" : Cond) ∈ gwL := gw_at 1 (z := tables_1_1) rfl (List.mem_of_getElem? (i := 134) rfl) rfl
theorem mw_356 : (.fieldLink RX11 184 "SetAgain$Habits" "losses" "I" : Cond) ∈ gwL := gw_at 1 (z := tables_1_1) rfl (List.mem_of_getElem? (i := 139) rfl) rfl
theorem mw_357 : (.code yX9_shiftByShift cX9_shiftByShift 6 (some .int) : Cond) ∈ gwL := gw_at 3 (z := tables_1_3) rfl (List.mem_of_getElem? (i := 155) rfl) rfl
theorem mw_358 : (.methodLink RX11 171 yX9_shiftByShift : Cond) ∈ gwL := gw_at 3 (z := tables_1_3) rfl (List.mem_of_getElem? (i := 152) rfl) rfl
theorem mw_359 : (.instanceMethod yX9_shiftByShift : Cond) ∈ gwL := gw_at 3 (z := tables_1_3) rfl (List.mem_of_getElem? (i := 153) rfl) rfl
theorem mw_360 : (.selects RX9 yX9_shiftByShift yX9_shiftByShift : Cond) ∈ gwL := gw_at 3 (z := tables_1_3) rfl (List.mem_of_getElem? (i := 154) rfl) rfl
theorem mw_361 : (.code yX8_allLosses cX8_allLosses 5 (some .int) : Cond) ∈ gwL := gw_at 3 (z := tables_1_3) rfl (List.mem_of_getElem? (i := 119) rfl) rfl
theorem mw_362 : (.methodLink RX11 156 yX8_allLosses : Cond) ∈ gwL := gw_at 3 (z := tables_1_3) rfl (List.mem_of_getElem? (i := 116) rfl) rfl
theorem mw_363 : (.instanceMethod yX8_allLosses : Cond) ∈ gwL := gw_at 3 (z := tables_1_3) rfl (List.mem_of_getElem? (i := 117) rfl) rfl
theorem mw_364 : (.selects RX8 yX8_allLosses yX8_allLosses : Cond) ∈ gwL := gw_at 3 (z := tables_1_3) rfl (List.mem_of_getElem? (i := 118) rfl) rfl
theorem mw_365 : (.methodLink RX6 77 yX0_numberOf : Cond) ∈ gwL := gw_at 4 (z := tables_1_4) rfl (List.mem_of_getElem? (i := 107) rfl) rfl
theorem mw_366 : (.methodLink RX6 80 yX0_turned : Cond) ∈ gwL := gw_at 4 (z := tables_1_4) rfl (List.mem_of_getElem? (i := 108) rfl) rfl
theorem mw_367 : (.fieldLink RX9 57 "SetAgain$Week" "sitters" "[I" : Cond) ∈ gwL := gw_at 1 (z := tables_1_1) rfl (List.mem_of_getElem? (i := 104) rfl) rfl
theorem mw_368 : (.methodLink RX9 60 yX0_lossAt : Cond) ∈ gwL := gw_at 3 (z := tables_1_3) rfl (List.mem_of_getElem? (i := 164) rfl) rfl
theorem mw_369 : (.methodLink RX9 36 yX0_slipped : Cond) ∈ gwL := gw_at 3 (z := tables_1_3) rfl (List.mem_of_getElem? (i := 165) rfl) rfl
theorem mw_370 : (.methodLink RX4 108 yX0_slipped : Cond) ∈ gwL := gw_at 4 (z := tables_1_4) rfl (List.mem_of_getElem? (i := 0) rfl) rfl
theorem mw_371 : (.constant RJ6 265 (1431655765) : Cond) ∈ gwL := gw_at 4 (z := tables_1_4) rfl (List.mem_of_getElem? (i := 29) rfl) rfl
theorem mw_372 : (.constant RJ6 266 (858993459) : Cond) ∈ gwL := gw_at 4 (z := tables_1_4) rfl (List.mem_of_getElem? (i := 30) rfl) rfl
theorem mw_373 : (.constant RJ6 267 (252645135) : Cond) ∈ gwL := gw_at 4 (z := tables_1_4) rfl (List.mem_of_getElem? (i := 31) rfl) rfl
theorem mw_374 : (.methodLink RX4 101 Lib.Math.abs.name : Cond) ∈ gwL := gw_at 3 (z := tables_1_3) rfl (List.mem_of_getElem? (i := 224) rfl) rfl
theorem mw_375 : (.code yX0_priceOf cX0_priceOf 2 (some .int) : Cond) ∈ gwL := gw_at 3 (z := tables_1_3) rfl (List.mem_of_getElem? (i := 172) rfl) rfl
theorem mw_376 : (.methodLink RX4 105 yX0_priceOf : Cond) ∈ gwL := gw_at 3 (z := tables_1_3) rfl (List.mem_of_getElem? (i := 225) rfl) rfl
theorem mw_377 : (.instanceMethod yX0_priceOf : Cond) ∈ gwL := gw_at 3 (z := tables_1_3) rfl (List.mem_of_getElem? (i := 170) rfl) rfl
theorem mw_378 : (.selects RX0 yX0_priceOf yX0_priceOf : Cond) ∈ gwL := gw_at 3 (z := tables_1_3) rfl (List.mem_of_getElem? (i := 171) rfl) rfl
theorem mw_379 : (.methodLink RX8 59 yX8_allLosses : Cond) ∈ gwL := gw_at 3 (z := tables_1_3) rfl (List.mem_of_getElem? (i := 129) rfl) rfl
theorem mw_380 : (.methodLink RX8 53 Lib.Math.max.name : Cond) ∈ gwL := gw_at 3 (z := tables_1_3) rfl (List.mem_of_getElem? (i := 134) rfl) rfl
theorem mw_381 : (.fieldLink RX8 9 "SetAgain$Still" "weight" "[I" : Cond) ∈ gwL := gw_at 1 (z := tables_1_1) rfl (List.mem_of_getElem? (i := 178) rfl) rfl
theorem mw_382 : (.fieldLink RX8 15 "SetAgain$Still" "wanted" "[Z" : Cond) ∈ gwL := gw_at 1 (z := tables_1_1) rfl (List.mem_of_getElem? (i := 179) rfl) rfl
theorem mw_383 : (.methodLink RX8 69 yX0_numberOf : Cond) ∈ gwL := gw_at 3 (z := tables_1_3) rfl (List.mem_of_getElem? (i := 147) rfl) rfl
theorem mw_384 : (.fieldLink RX8 22 "SetAgain$Still" "sums" "[I" : Cond) ∈ gwL := gw_at 1 (z := tables_1_1) rfl (List.mem_of_getElem? (i := 181) rfl) rfl
theorem mw_385 : (.fieldLink RX8 25 "SetAgain$Still" "leasts" "[I" : Cond) ∈ gwL := gw_at 1 (z := tables_1_1) rfl (List.mem_of_getElem? (i := 182) rfl) rfl
theorem mw_386 : (.methodLink RX8 103 Lib.Math.min.name : Cond) ∈ gwL := gw_at 4 (z := tables_1_4) rfl (List.mem_of_getElem? (i := 64) rfl) rfl
theorem mw_387 : (.code yX8_worstLoss cX8_worstLoss 5 (some .int) : Cond) ∈ gwL := gw_at 3 (z := tables_1_3) rfl (List.mem_of_getElem? (i := 133) rfl) rfl
theorem mw_388 : (.methodLink RX8 62 yX8_worstLoss : Cond) ∈ gwL := gw_at 3 (z := tables_1_3) rfl (List.mem_of_getElem? (i := 130) rfl) rfl
theorem mw_389 : (.instanceMethod yX8_worstLoss : Cond) ∈ gwL := gw_at 3 (z := tables_1_3) rfl (List.mem_of_getElem? (i := 132) rfl) rfl
theorem mw_390 : (.selects RX8 yX8_worstLoss yX8_worstLoss : Cond) ∈ gwL := gw_at 0 (z := (k2_sels lw_privs)) rfl (List.mem_of_getElem? (i := 19) rfl) rfl
theorem mw_391 : (.code yX8_weighWants cX8_weighWants 7 (some .int) : Cond) ∈ gwL := gw_at 3 (z := tables_1_3) rfl (List.mem_of_getElem? (i := 146) rfl) rfl
theorem mw_392 : (.methodLink RX8 65 yX8_weighWants : Cond) ∈ gwL := gw_at 3 (z := tables_1_3) rfl (List.mem_of_getElem? (i := 143) rfl) rfl
theorem mw_393 : (.instanceMethod yX8_weighWants : Cond) ∈ gwL := gw_at 3 (z := tables_1_3) rfl (List.mem_of_getElem? (i := 145) rfl) rfl
theorem mw_394 : (.selects RX8 yX8_weighWants yX8_weighWants : Cond) ∈ gwL := gw_at 0 (z := (k2_sels lw_privs)) rfl (List.mem_of_getElem? (i := 20) rfl) rfl
theorem mw_395 : (.code yX8_sumGroupsUpTo cX8_sumGroupsUpTo 5 none : Cond) ∈ gwL := gw_at 4 (z := tables_1_4) rfl (List.mem_of_getElem? (i := 63) rfl) rfl
theorem mw_396 : (.methodLink RX8 99 yX8_sumGroupsUpTo : Cond) ∈ gwL := gw_at 4 (z := tables_1_4) rfl (List.mem_of_getElem? (i := 60) rfl) rfl
theorem mw_397 : (.instanceMethod yX8_sumGroupsUpTo : Cond) ∈ gwL := gw_at 4 (z := tables_1_4) rfl (List.mem_of_getElem? (i := 62) rfl) rfl
theorem mw_398 : (.selects RX8 yX8_sumGroupsUpTo yX8_sumGroupsUpTo : Cond) ∈ gwL := gw_at 0 (z := (k2_sels lw_privs)) rfl (List.mem_of_getElem? (i := 32) rfl) rfl
theorem mw_399 : (.methodLink RX9 49 yX0_priceOf : Cond) ∈ gwL := gw_at 3 (z := tables_1_3) rfl (List.mem_of_getElem? (i := 169) rfl) rfl
theorem mw_400 : (.methodLink RX9 68 Lib.Math.abs.name : Cond) ∈ gwL := gw_at 3 (z := tables_1_3) rfl (List.mem_of_getElem? (i := 182) rfl) rfl
theorem mw_401 : (.code yX9_unturned cX9_unturned 5 (some .int) : Cond) ∈ gwL := gw_at 3 (z := tables_1_3) rfl (List.mem_of_getElem? (i := 163) rfl) rfl
theorem mw_402 : (.methodLink RX9 46 yX9_unturned : Cond) ∈ gwL := gw_at 3 (z := tables_1_3) rfl (List.mem_of_getElem? (i := 160) rfl) rfl
theorem mw_403 : (.instanceMethod yX9_unturned : Cond) ∈ gwL := gw_at 3 (z := tables_1_3) rfl (List.mem_of_getElem? (i := 162) rfl) rfl
theorem mw_404 : (.selects RX9 yX9_unturned yX9_unturned : Cond) ∈ gwL := gw_at 0 (z := (k2_sels lw_privs)) rfl (List.mem_of_getElem? (i := 22) rfl) rfl
theorem mw_405 : (.code yX4_slip cX4_slip 2 none : Cond) ∈ gwL := gw_at 3 (z := tables_1_3) rfl (List.mem_of_getElem? (i := 239) rfl) rfl
theorem mw_406 : (.methodLink RX4 68 yX4_slip : Cond) ∈ gwL := gw_at 3 (z := tables_1_3) rfl (List.mem_of_getElem? (i := 236) rfl) rfl
theorem mw_407 : (.instanceMethod yX4_slip : Cond) ∈ gwL := gw_at 3 (z := tables_1_3) rfl (List.mem_of_getElem? (i := 238) rfl) rfl
theorem mw_408 : (.selects RX4 yX4_slip yX4_slip : Cond) ∈ gwL := gw_at 0 (z := (k2_sels lw_privs)) rfl (List.mem_of_getElem? (i := 28) rfl) rfl
theorem mw_409 : (.code yX9_leastSetting cX9_leastSetting 7 (some .int) : Cond) ∈ gwL := gw_at 3 (z := tables_1_3) rfl (List.mem_of_getElem? (i := 181) rfl) rfl
theorem mw_410 : (.methodLink RX9 32 yX9_leastSetting : Cond) ∈ gwL := gw_at 3 (z := tables_1_3) rfl (List.mem_of_getElem? (i := 178) rfl) rfl
theorem mw_411 : (.instanceMethod yX9_leastSetting : Cond) ∈ gwL := gw_at 3 (z := tables_1_3) rfl (List.mem_of_getElem? (i := 180) rfl) rfl
theorem mw_412 : (.selects RX9 yX9_leastSetting yX9_leastSetting : Cond) ∈ gwL := gw_at 0 (z := (k2_sels lw_privs)) rfl (List.mem_of_getElem? (i := 24) rfl) rfl
theorem mw_413 : (.code yX4_pass cX4_pass 2 none : Cond) ∈ gwL := gw_at 3 (z := tables_1_3) rfl (List.mem_of_getElem? (i := 210) rfl) rfl
theorem mw_414 : (.methodLink RX4 58 yX4_pass : Cond) ∈ gwL := gw_at 3 (z := tables_1_3) rfl (List.mem_of_getElem? (i := 207) rfl) rfl
theorem mw_415 : (.instanceMethod yX4_pass : Cond) ∈ gwL := gw_at 3 (z := tables_1_3) rfl (List.mem_of_getElem? (i := 208) rfl) rfl
theorem mw_416 : (.selects RX4 yX4_pass yX4_pass : Cond) ∈ gwL := gw_at 3 (z := tables_1_3) rfl (List.mem_of_getElem? (i := 209) rfl) rfl
theorem mw_417 : (.code yJ6_bitCount_0f7a4 cJ6_bitCount_0f7a4 1 (some .int) : Cond) ∈ gwL := gw_at 4 (z := tables_1_4) rfl (List.mem_of_getElem? (i := 28) rfl) rfl
theorem mw_418 : (.methodLink RX4 119 yJ6_bitCount_0f7a4 : Cond) ∈ gwL := gw_at 4 (z := tables_1_4) rfl (List.mem_of_getElem? (i := 26) rfl) rfl
theorem mw_419 : (.static yJ6_bitCount_0f7a4 : Cond) ∈ gwL := gw_at 4 (z := tables_1_4) rfl (List.mem_of_getElem? (i := 27) rfl) rfl
theorem mw_420 : (.initialized RJ6 : Cond) ∈ gwL := gw_at 1 (z := tables_1_1) rfl (List.mem_of_getElem? (i := 16) rfl) rfl
theorem mw_421 : (.code yX8_sumGroups cX8_sumGroups 4 none : Cond) ∈ gwL := gw_at 4 (z := tables_1_4) rfl (List.mem_of_getElem? (i := 59) rfl) rfl
theorem mw_422 : (.methodLink RX8 75 yX8_sumGroups : Cond) ∈ gwL := gw_at 4 (z := tables_1_4) rfl (List.mem_of_getElem? (i := 56) rfl) rfl
theorem mw_423 : (.instanceMethod yX8_sumGroups : Cond) ∈ gwL := gw_at 4 (z := tables_1_4) rfl (List.mem_of_getElem? (i := 58) rfl) rfl
theorem mw_424 : (.selects RX8 yX8_sumGroups yX8_sumGroups : Cond) ∈ gwL := gw_at 0 (z := (k2_sels lw_privs)) rfl (List.mem_of_getElem? (i := 31) rfl) rfl
theorem mw_425 : (.fieldLink RX8 79 "SetAgain$Still" "found" "Z" : Cond) ∈ gwL := gw_at 1 (z := tables_1_1) rfl (List.mem_of_getElem? (i := 188) rfl) rfl
theorem mw_426 : (.fieldLink RX8 83 "SetAgain$Still" "free" "I" : Cond) ∈ gwL := gw_at 1 (z := tables_1_1) rfl (List.mem_of_getElem? (i := 186) rfl) rfl
theorem mw_427 : (.code yX4_turnTo cX4_turnTo 5 (some .int) : Cond) ∈ gwL := gw_at 3 (z := tables_1_3) rfl (List.mem_of_getElem? (i := 223) rfl) rfl
theorem mw_428 : (.methodLink RX4 82 yX4_turnTo : Cond) ∈ gwL := gw_at 3 (z := tables_1_3) rfl (List.mem_of_getElem? (i := 220) rfl) rfl
theorem mw_429 : (.instanceMethod yX4_turnTo : Cond) ∈ gwL := gw_at 3 (z := tables_1_3) rfl (List.mem_of_getElem? (i := 222) rfl) rfl
theorem mw_430 : (.selects RX4 yX4_turnTo yX4_turnTo : Cond) ∈ gwL := gw_at 0 (z := (k2_sels lw_privs)) rfl (List.mem_of_getElem? (i := 26) rfl) rfl
theorem mw_431 : (.code yX6_allAhead cX6_allAhead 7 (some .long) : Cond) ∈ gwL := gw_at 4 (z := tables_1_4) rfl (List.mem_of_getElem? (i := 124) rfl) rfl
theorem mw_432 : (.methodLink RX6 59 yX6_allAhead : Cond) ∈ gwL := gw_at 4 (z := tables_1_4) rfl (List.mem_of_getElem? (i := 121) rfl) rfl
theorem mw_433 : (.instanceMethod yX6_allAhead : Cond) ∈ gwL := gw_at 4 (z := tables_1_4) rfl (List.mem_of_getElem? (i := 123) rfl) rfl
theorem mw_434 : (.selects RX6 yX6_allAhead yX6_allAhead : Cond) ∈ gwL := gw_at 0 (z := (k2_sels lw_privs)) rfl (List.mem_of_getElem? (i := 41) rfl) rfl
theorem mw_435 : (.methodLink RX11 333 yX4_pass : Cond) ∈ gwL := gw_at 4 (z := tables_1_4) rfl (List.mem_of_getElem? (i := 135) rfl) rfl
theorem mw_436 : (.constantLong RX11 336 (-1) : Cond) ∈ gwL := gw_at 4 (z := tables_1_4) rfl (List.mem_of_getElem? (i := 136) rfl) rfl
theorem mw_437 : (.code yX4_savedByMarks cX4_savedByMarks 4 (some .int) : Cond) ∈ gwL := gw_at 4 (z := tables_1_4) rfl (List.mem_of_getElem? (i := 43) rfl) rfl
theorem mw_438 : (.methodLink RX11 199 yX4_savedByMarks : Cond) ∈ gwL := gw_at 4 (z := tables_1_4) rfl (List.mem_of_getElem? (i := 40) rfl) rfl
theorem mw_439 : (.instanceMethod yX4_savedByMarks : Cond) ∈ gwL := gw_at 4 (z := tables_1_4) rfl (List.mem_of_getElem? (i := 41) rfl) rfl
theorem mw_440 : (.selects RX4 yX4_savedByMarks yX4_savedByMarks : Cond) ∈ gwL := gw_at 4 (z := tables_1_4) rfl (List.mem_of_getElem? (i := 42) rfl) rfl
theorem mw_441 : (.code yX4_allTurns cX4_allTurns 3 (some .int) : Cond) ∈ gwL := gw_at 4 (z := tables_1_4) rfl (List.mem_of_getElem? (i := 4) rfl) rfl
theorem mw_442 : (.methodLink RX11 181 yX4_allTurns : Cond) ∈ gwL := gw_at 4 (z := tables_1_4) rfl (List.mem_of_getElem? (i := 1) rfl) rfl
theorem mw_443 : (.instanceMethod yX4_allTurns : Cond) ∈ gwL := gw_at 4 (z := tables_1_4) rfl (List.mem_of_getElem? (i := 2) rfl) rfl
theorem mw_444 : (.selects RX4 yX4_allTurns yX4_allTurns : Cond) ∈ gwL := gw_at 4 (z := tables_1_4) rfl (List.mem_of_getElem? (i := 3) rfl) rfl
theorem mw_445 : (.code yX9_oneTurning cX9_oneTurning 12 (some .int) : Cond) ∈ gwL := gw_at 3 (z := tables_1_3) rfl (List.mem_of_getElem? (i := 190) rfl) rfl
theorem mw_446 : (.methodLink RX11 174 yX9_oneTurning : Cond) ∈ gwL := gw_at 3 (z := tables_1_3) rfl (List.mem_of_getElem? (i := 187) rfl) rfl
theorem mw_447 : (.instanceMethod yX9_oneTurning : Cond) ∈ gwL := gw_at 3 (z := tables_1_3) rfl (List.mem_of_getElem? (i := 188) rfl) rfl
theorem mw_448 : (.selects RX9 yX9_oneTurning yX9_oneTurning : Cond) ∈ gwL := gw_at 3 (z := tables_1_3) rfl (List.mem_of_getElem? (i := 189) rfl) rfl
theorem mw_449 : (.code yX8_middleWant cX8_middleWant 5 (some .int) : Cond) ∈ gwL := gw_at 3 (z := tables_1_3) rfl (List.mem_of_getElem? (i := 142) rfl) rfl
theorem mw_450 : (.methodLink RX11 165 yX8_middleWant : Cond) ∈ gwL := gw_at 3 (z := tables_1_3) rfl (List.mem_of_getElem? (i := 139) rfl) rfl
theorem mw_451 : (.instanceMethod yX8_middleWant : Cond) ∈ gwL := gw_at 3 (z := tables_1_3) rfl (List.mem_of_getElem? (i := 140) rfl) rfl
theorem mw_452 : (.selects RX8 yX8_middleWant yX8_middleWant : Cond) ∈ gwL := gw_at 3 (z := tables_1_3) rfl (List.mem_of_getElem? (i := 141) rfl) rfl
theorem mw_453 : (.code yX8_bestOf cX8_bestOf 7 (some .int) : Cond) ∈ gwL := gw_at 3 (z := tables_1_3) rfl (List.mem_of_getElem? (i := 128) rfl) rfl
theorem mw_454 : (.methodLink RX11 162 yX8_bestOf : Cond) ∈ gwL := gw_at 3 (z := tables_1_3) rfl (List.mem_of_getElem? (i := 125) rfl) rfl
theorem mw_455 : (.instanceMethod yX8_bestOf : Cond) ∈ gwL := gw_at 3 (z := tables_1_3) rfl (List.mem_of_getElem? (i := 126) rfl) rfl
theorem mw_456 : (.selects RX8 yX8_bestOf yX8_bestOf : Cond) ∈ gwL := gw_at 3 (z := tables_1_3) rfl (List.mem_of_getElem? (i := 127) rfl) rfl
theorem mw_457 : (.methodLink RX9 63 Lib.Math.min.name : Cond) ∈ gwL := gw_at 3 (z := tables_1_3) rfl (List.mem_of_getElem? (i := 177) rfl) rfl
theorem mw_458 : (.fieldLink RX8 28 "SetAgain$Still" "group" "[I" : Cond) ∈ gwL := gw_at 1 (z := tables_1_1) rfl (List.mem_of_getElem? (i := 183) rfl) rfl
theorem mw_459 : (.fieldLink RX8 90 "SetAgain$Still" "least" "I" : Cond) ∈ gwL := gw_at 1 (z := tables_1_1) rfl (List.mem_of_getElem? (i := 187) rfl) rfl
theorem mw_460 : (.fieldLink RX8 31 "SetAgain$Still" "bestGroup" "[I" : Cond) ∈ gwL := gw_at 1 (z := tables_1_1) rfl (List.mem_of_getElem? (i := 184) rfl) rfl
theorem mw_461 : (.code yX8_weigh cX8_weigh 3 none : Cond) ∈ gwL := gw_at 4 (z := tables_1_4) rfl (List.mem_of_getElem? (i := 72) rfl) rfl
theorem mw_462 : (.methodLink RX8 106 yX8_weigh : Cond) ∈ gwL := gw_at 4 (z := tables_1_4) rfl (List.mem_of_getElem? (i := 69) rfl) rfl
theorem mw_463 : (.instanceMethod yX8_weigh : Cond) ∈ gwL := gw_at 4 (z := tables_1_4) rfl (List.mem_of_getElem? (i := 71) rfl) rfl
theorem mw_464 : (.selects RX8 yX8_weigh yX8_weigh : Cond) ∈ gwL := gw_at 0 (z := (k2_sels lw_privs)) rfl (List.mem_of_getElem? (i := 34) rfl) rfl
theorem mw_465 : (.code yX8_part cX8_part 3 none : Cond) ∈ gwL := gw_at 4 (z := tables_1_4) rfl (List.mem_of_getElem? (i := 68) rfl) rfl
theorem mw_466 : (.methodLink RX8 87 yX8_part : Cond) ∈ gwL := gw_at 4 (z := tables_1_4) rfl (List.mem_of_getElem? (i := 65) rfl) rfl
theorem mw_467 : (.instanceMethod yX8_part : Cond) ∈ gwL := gw_at 4 (z := tables_1_4) rfl (List.mem_of_getElem? (i := 67) rfl) rfl
theorem mw_468 : (.selects RX8 yX8_part yX8_part : Cond) ∈ gwL := gw_at 0 (z := (k2_sels lw_privs)) rfl (List.mem_of_getElem? (i := 33) rfl) rfl
theorem mw_469 : (.code yX5_next cX5_next 1 (some .int) : Cond) ∈ gwL := gw_at 3 (z := tables_1_3) rfl (List.mem_of_getElem? (i := 32) rfl) rfl
theorem mw_470 : (.methodLink RX5 56 yX5_next : Cond) ∈ gwL := gw_at 3 (z := tables_1_3) rfl (List.mem_of_getElem? (i := 29) rfl) rfl
theorem mw_471 : (.instanceMethod yX5_next : Cond) ∈ gwL := gw_at 3 (z := tables_1_3) rfl (List.mem_of_getElem? (i := 31) rfl) rfl
theorem mw_472 : (.selects RX5 yX5_next yX5_next : Cond) ∈ gwL := gw_at 0 (z := (k2_sels lw_privs)) rfl (List.mem_of_getElem? (i := 12) rfl) rfl
theorem mw_473 : (.code yX9_spread cX9_spread 4 none : Cond) ∈ gwL := gw_at 3 (z := tables_1_3) rfl (List.mem_of_getElem? (i := 176) rfl) rfl
theorem mw_474 : (.methodLink RX9 53 yX9_spread : Cond) ∈ gwL := gw_at 3 (z := tables_1_3) rfl (List.mem_of_getElem? (i := 173) rfl) rfl
theorem mw_475 : (.instanceMethod yX9_spread : Cond) ∈ gwL := gw_at 3 (z := tables_1_3) rfl (List.mem_of_getElem? (i := 175) rfl) rfl
theorem mw_476 : (.selects RX9 yX9_spread yX9_spread : Cond) ∈ gwL := gw_at 0 (z := (k2_sels lw_privs)) rfl (List.mem_of_getElem? (i := 23) rfl) rfl
theorem mw_477 : (.code yX4_sparedBy cX4_sparedBy 4 (some .int) : Cond) ∈ gwL := gw_at 4 (z := tables_1_4) rfl (List.mem_of_getElem? (i := 35) rfl) rfl
theorem mw_478 : (.methodLink RX4 124 yX4_sparedBy : Cond) ∈ gwL := gw_at 4 (z := tables_1_4) rfl (List.mem_of_getElem? (i := 32) rfl) rfl
theorem mw_479 : (.instanceMethod yX4_sparedBy : Cond) ∈ gwL := gw_at 4 (z := tables_1_4) rfl (List.mem_of_getElem? (i := 34) rfl) rfl
theorem mw_480 : (.selects RX4 yX4_sparedBy yX4_sparedBy : Cond) ∈ gwL := gw_at 0 (z := (k2_sels lw_privs)) rfl (List.mem_of_getElem? (i := 29) rfl) rfl
theorem mw_481 : (.code yX0_fetch cX0_fetch 1 (some .int) : Cond) ∈ gwL := gw_at 3 (z := tables_1_3) rfl (List.mem_of_getElem? (i := 229) rfl) rfl
theorem mw_482 : (.methodLink RX4 85 yX0_fetch : Cond) ∈ gwL := gw_at 3 (z := tables_1_3) rfl (List.mem_of_getElem? (i := 226) rfl) rfl
theorem mw_483 : (.instanceMethod yX0_fetch : Cond) ∈ gwL := gw_at 3 (z := tables_1_3) rfl (List.mem_of_getElem? (i := 227) rfl) rfl
theorem mw_484 : (.selects RX0 yX0_fetch yX0_fetch : Cond) ∈ gwL := gw_at 3 (z := tables_1_3) rfl (List.mem_of_getElem? (i := 228) rfl) rfl
theorem mw_485 : (.methodLink RX4 89 Lib.Math.max.name : Cond) ∈ gwL := gw_at 3 (z := tables_1_3) rfl (List.mem_of_getElem? (i := 230) rfl) rfl
theorem mw_486 : (.methodLink RX4 94 yX0_lossAt : Cond) ∈ gwL := gw_at 3 (z := tables_1_3) rfl (List.mem_of_getElem? (i := 231) rfl) rfl
theorem mw_487 : (.code yX4_comes cX4_comes 6 none : Cond) ∈ gwL := gw_at 3 (z := tables_1_3) rfl (List.mem_of_getElem? (i := 214) rfl) rfl
theorem mw_488 : (.methodLink RX2 34 yX4_comes : Cond) ∈ gwL := gw_at 4 (z := tables_1_4) rfl (List.mem_of_getElem? (i := 155) rfl) rfl
theorem mw_489 : (.instanceMethod yX4_comes : Cond) ∈ gwL := gw_at 3 (z := tables_1_3) rfl (List.mem_of_getElem? (i := 212) rfl) rfl
theorem mw_490 : (.selects RX4 yX4_comes yX4_comes : Cond) ∈ gwL := gw_at 3 (z := tables_1_3) rfl (List.mem_of_getElem? (i := 213) rfl) rfl
theorem mw_491 : (.fieldLink RX2 38 "SetAgain$Habits" "stand" "[I" : Cond) ∈ gwL := gw_at 1 (z := tables_1_1) rfl (List.mem_of_getElem? (i := 133) rfl) rfl
theorem mw_492 : (.fieldLink RX2 52 "SetAgain$Habits" "costs" "I" : Cond) ∈ gwL := gw_at 1 (z := tables_1_1) rfl (List.mem_of_getElem? (i := 141) rfl) rfl
theorem mw_493 : (.methodLink RX2 56 yX4_allTurns : Cond) ∈ gwL := gw_at 4 (z := tables_1_4) rfl (List.mem_of_getElem? (i := 157) rfl) rfl
theorem mw_494 : (.fieldLink RX2 60 "SetAgain$Habits" "losses" "I" : Cond) ∈ gwL := gw_at 1 (z := tables_1_1) rfl (List.mem_of_getElem? (i := 138) rfl) rfl
theorem mw_495 : (.code yX2_comes cX2_comes 2 (some .int) : Cond) ∈ gwL := gw_at 4 (z := tables_1_4) rfl (List.mem_of_getElem? (i := 153) rfl) rfl
theorem mw_496 : (.methodLink RX11 223 yX2_comes : Cond) ∈ gwL := gw_at 4 (z := tables_1_4) rfl (List.mem_of_getElem? (i := 150) rfl) rfl
theorem mw_497 : (.instanceMethod yX2_comes : Cond) ∈ gwL := gw_at 4 (z := tables_1_4) rfl (List.mem_of_getElem? (i := 151) rfl) rfl
theorem mw_498 : (.selects RX2 yX2_comes yX2_comes : Cond) ∈ gwL := gw_at 4 (z := tables_1_4) rfl (List.mem_of_getElem? (i := 152) rfl) rfl
theorem mw_499 : (.code yX8_parted cX8_parted 4 (some .int) : Cond) ∈ gwL := gw_at 4 (z := tables_1_4) rfl (List.mem_of_getElem? (i := 51) rfl) rfl
theorem mw_500 : (.methodLink RX11 202 yX8_parted : Cond) ∈ gwL := gw_at 4 (z := tables_1_4) rfl (List.mem_of_getElem? (i := 48) rfl) rfl
theorem mw_501 : (.instanceMethod yX8_parted : Cond) ∈ gwL := gw_at 4 (z := tables_1_4) rfl (List.mem_of_getElem? (i := 49) rfl) rfl
theorem mw_502 : (.selects RX8 yX8_parted yX8_parted : Cond) ∈ gwL := gw_at 4 (z := tables_1_4) rfl (List.mem_of_getElem? (i := 50) rfl) rfl
theorem mw_503 : (.methodLink RX4 62 yX4_comes : Cond) ∈ gwL := gw_at 3 (z := tables_1_3) rfl (List.mem_of_getElem? (i := 211) rfl) rfl
theorem mw_504 : (.code yX5_isDigit cX5_isDigit 1 (some .boolean) : Cond) ∈ gwL := gw_at 3 (z := tables_1_3) rfl (List.mem_of_getElem? (i := 35) rfl) rfl
theorem mw_505 : (.methodLink RX5 85 yX5_isDigit : Cond) ∈ gwL := gw_at 3 (z := tables_1_3) rfl (List.mem_of_getElem? (i := 33) rfl) rfl
theorem mw_506 : (.static yX5_isDigit : Cond) ∈ gwL := gw_at 3 (z := tables_1_3) rfl (List.mem_of_getElem? (i := 34) rfl) rfl
theorem mw_507 : (.code yX4_leaves cX4_leaves 2 none : Cond) ∈ gwL := gw_at 3 (z := tables_1_3) rfl (List.mem_of_getElem? (i := 235) rfl) rfl
theorem mw_508 : (.methodLink RX4 65 yX4_leaves : Cond) ∈ gwL := gw_at 3 (z := tables_1_3) rfl (List.mem_of_getElem? (i := 232) rfl) rfl
theorem mw_509 : (.instanceMethod yX4_leaves : Cond) ∈ gwL := gw_at 3 (z := tables_1_3) rfl (List.mem_of_getElem? (i := 234) rfl) rfl
theorem mw_510 : (.selects RX4 yX4_leaves yX4_leaves : Cond) ∈ gwL := gw_at 0 (z := (k2_sels lw_privs)) rfl (List.mem_of_getElem? (i := 27) rfl) rfl
theorem mw_511 : (.code yX8_chairOf cX8_chairOf 4 (some .int) : Cond) ∈ gwL := gw_at 4 (z := tables_1_4) rfl (List.mem_of_getElem? (i := 76) rfl) rfl
theorem mw_512 : (.methodLink RX8 93 yX8_chairOf : Cond) ∈ gwL := gw_at 4 (z := tables_1_4) rfl (List.mem_of_getElem? (i := 73) rfl) rfl
theorem mw_513 : (.instanceMethod yX8_chairOf : Cond) ∈ gwL := gw_at 4 (z := tables_1_4) rfl (List.mem_of_getElem? (i := 75) rfl) rfl
theorem mw_514 : (.selects RX8 yX8_chairOf yX8_chairOf : Cond) ∈ gwL := gw_at 0 (z := (k2_sels lw_privs)) rfl (List.mem_of_getElem? (i := 35) rfl) rfl
theorem mw_515 : (.fieldLink RX5 15 "SetAgain$Law" "draft" "[I" : Cond) ∈ gwL := gw_at 1 (z := tables_1_1) rfl (List.mem_of_getElem? (i := 42) rfl) rfl
theorem mw_516 : (.code yX5_write cX5_write 2 none : Cond) ∈ gwL := gw_at 3 (z := tables_1_3) rfl (List.mem_of_getElem? (i := 43) rfl) rfl
theorem mw_517 : (.methodLink RX5 67 yX5_write : Cond) ∈ gwL := gw_at 3 (z := tables_1_3) rfl (List.mem_of_getElem? (i := 40) rfl) rfl
theorem mw_518 : (.instanceMethod yX5_write : Cond) ∈ gwL := gw_at 3 (z := tables_1_3) rfl (List.mem_of_getElem? (i := 42) rfl) rfl
theorem mw_519 : (.selects RX5 yX5_write yX5_write : Cond) ∈ gwL := gw_at 0 (z := (k2_sels lw_privs)) rfl (List.mem_of_getElem? (i := 14) rfl) rfl
theorem mw_520 : (.code yX5_number cX5_number 3 none : Cond) ∈ gwL := gw_at 3 (z := tables_1_3) rfl (List.mem_of_getElem? (i := 39) rfl) rfl
theorem mw_521 : (.methodLink RX5 89 yX5_number : Cond) ∈ gwL := gw_at 3 (z := tables_1_3) rfl (List.mem_of_getElem? (i := 36) rfl) rfl
theorem mw_522 : (.instanceMethod yX5_number : Cond) ∈ gwL := gw_at 3 (z := tables_1_3) rfl (List.mem_of_getElem? (i := 38) rfl) rfl
theorem mw_523 : (.selects RX5 yX5_number yX5_number : Cond) ∈ gwL := gw_at 0 (z := (k2_sels lw_privs)) rfl (List.mem_of_getElem? (i := 13) rfl) rfl
theorem mw_524 : (.code yX5_isName cX5_isName 1 (some .boolean) : Cond) ∈ gwL := gw_at 3 (z := tables_1_3) rfl (List.mem_of_getElem? (i := 46) rfl) rfl
theorem mw_525 : (.methodLink RX5 92 yX5_isName : Cond) ∈ gwL := gw_at 3 (z := tables_1_3) rfl (List.mem_of_getElem? (i := 44) rfl) rfl
theorem mw_526 : (.static yX5_isName : Cond) ∈ gwL := gw_at 3 (z := tables_1_3) rfl (List.mem_of_getElem? (i := 45) rfl) rfl
theorem mw_527 : (.code yX5_operand cX5_operand 3 none : Cond) ∈ gwL := gw_at 3 (z := tables_1_3) rfl (List.mem_of_getElem? (i := 28) rfl) rfl
theorem mw_528 : (.methodLink RX5 82 yX5_operand : Cond) ∈ gwL := gw_at 3 (z := tables_1_3) rfl (List.mem_of_getElem? (i := 25) rfl) rfl
theorem mw_529 : (.instanceMethod yX5_operand : Cond) ∈ gwL := gw_at 3 (z := tables_1_3) rfl (List.mem_of_getElem? (i := 27) rfl) rfl
theorem mw_530 : (.selects RX5 yX5_operand yX5_operand : Cond) ∈ gwL := gw_at 0 (z := (k2_sels lw_privs)) rfl (List.mem_of_getElem? (i := 11) rfl) rfl
theorem mw_531 : (.code yX5_product cX5_product 4 none : Cond) ∈ gwL := gw_at 3 (z := tables_1_3) rfl (List.mem_of_getElem? (i := 24) rfl) rfl
theorem mw_532 : (.methodLink RX5 79 yX5_product : Cond) ∈ gwL := gw_at 3 (z := tables_1_3) rfl (List.mem_of_getElem? (i := 21) rfl) rfl
theorem mw_533 : (.instanceMethod yX5_product : Cond) ∈ gwL := gw_at 3 (z := tables_1_3) rfl (List.mem_of_getElem? (i := 23) rfl) rfl
theorem mw_534 : (.selects RX5 yX5_product yX5_product : Cond) ∈ gwL := gw_at 0 (z := (k2_sels lw_privs)) rfl (List.mem_of_getElem? (i := 10) rfl) rfl
theorem mw_535 : (.code yX5_sum cX5_sum 4 none : Cond) ∈ gwL := gw_at 3 (z := tables_1_3) rfl (List.mem_of_getElem? (i := 20) rfl) rfl
theorem mw_536 : (.methodLink RX5 76 yX5_sum : Cond) ∈ gwL := gw_at 3 (z := tables_1_3) rfl (List.mem_of_getElem? (i := 17) rfl) rfl
theorem mw_537 : (.instanceMethod yX5_sum : Cond) ∈ gwL := gw_at 3 (z := tables_1_3) rfl (List.mem_of_getElem? (i := 19) rfl) rfl
theorem mw_538 : (.selects RX5 yX5_sum yX5_sum : Cond) ∈ gwL := gw_at 0 (z := (k2_sels lw_privs)) rfl (List.mem_of_getElem? (i := 9) rfl) rfl
theorem mw_539 : (.code yX5_compared cX5_compared 3 none : Cond) ∈ gwL := gw_at 3 (z := tables_1_3) rfl (List.mem_of_getElem? (i := 16) rfl) rfl
theorem mw_540 : (.methodLink RX5 73 yX5_compared : Cond) ∈ gwL := gw_at 3 (z := tables_1_3) rfl (List.mem_of_getElem? (i := 13) rfl) rfl
theorem mw_541 : (.instanceMethod yX5_compared : Cond) ∈ gwL := gw_at 3 (z := tables_1_3) rfl (List.mem_of_getElem? (i := 15) rfl) rfl
theorem mw_542 : (.selects RX5 yX5_compared yX5_compared : Cond) ∈ gwL := gw_at 0 (z := (k2_sels lw_privs)) rfl (List.mem_of_getElem? (i := 8) rfl) rfl
theorem mw_543 : (.code yX5_both cX5_both 3 none : Cond) ∈ gwL := gw_at 3 (z := tables_1_3) rfl (List.mem_of_getElem? (i := 12) rfl) rfl
theorem mw_544 : (.methodLink RX5 70 yX5_both : Cond) ∈ gwL := gw_at 3 (z := tables_1_3) rfl (List.mem_of_getElem? (i := 9) rfl) rfl
theorem mw_545 : (.instanceMethod yX5_both : Cond) ∈ gwL := gw_at 3 (z := tables_1_3) rfl (List.mem_of_getElem? (i := 11) rfl) rfl
theorem mw_546 : (.selects RX5 yX5_both yX5_both : Cond) ∈ gwL := gw_at 0 (z := (k2_sels lw_privs)) rfl (List.mem_of_getElem? (i := 7) rfl) rfl
theorem mw_547 : (.code yX5_either cX5_either 3 none : Cond) ∈ gwL := gw_at 3 (z := tables_1_3) rfl (List.mem_of_getElem? (i := 8) rfl) rfl
theorem mw_548 : (.methodLink RX5 63 yX5_either : Cond) ∈ gwL := gw_at 3 (z := tables_1_3) rfl (List.mem_of_getElem? (i := 5) rfl) rfl
theorem mw_549 : (.instanceMethod yX5_either : Cond) ∈ gwL := gw_at 3 (z := tables_1_3) rfl (List.mem_of_getElem? (i := 7) rfl) rfl
theorem mw_550 : (.selects RX5 yX5_either yX5_either : Cond) ∈ gwL := gw_at 0 (z := (k2_sels lw_privs)) rfl (List.mem_of_getElem? (i := 6) rfl) rfl
theorem mw_551 : (.code yX5_line cX5_line 1 none : Cond) ∈ gwL := gw_at 3 (z := tables_1_3) rfl (List.mem_of_getElem? (i := 4) rfl) rfl
theorem mw_552 : (.methodLink RX5 53 yX5_line : Cond) ∈ gwL := gw_at 3 (z := tables_1_3) rfl (List.mem_of_getElem? (i := 1) rfl) rfl
theorem mw_553 : (.instanceMethod yX5_line : Cond) ∈ gwL := gw_at 3 (z := tables_1_3) rfl (List.mem_of_getElem? (i := 3) rfl) rfl
theorem mw_554 : (.selects RX5 yX5_line yX5_line : Cond) ∈ gwL := gw_at 0 (z := (k2_sels lw_privs)) rfl (List.mem_of_getElem? (i := 5) rfl) rfl
theorem mw_555 : (.code yX5_lines cX5_lines 2 none : Cond) ∈ gwL := gw_at 3 (z := tables_1_3) rfl (List.mem_of_getElem? (i := 0) rfl) rfl
theorem mw_556 : (.methodLink RX5 37 yX5_lines : Cond) ∈ gwL := gw_at 2 (z := tables_1_2) rfl (List.mem_of_getElem? (i := 237) rfl) rfl
theorem mw_557 : (.instanceMethod yX5_lines : Cond) ∈ gwL := gw_at 2 (z := tables_1_2) rfl (List.mem_of_getElem? (i := 239) rfl) rfl
theorem mw_558 : (.selects RX5 yX5_lines yX5_lines : Cond) ∈ gwL := gw_at 0 (z := (k2_sels lw_privs)) rfl (List.mem_of_getElem? (i := 4) rfl) rfl
theorem mw_559 : (.fieldLink RX5 18 "SetAgain$Law" "code" "[I" : Cond) ∈ gwL := gw_at 1 (z := tables_1_1) rfl (List.mem_of_getElem? (i := 43) rfl) rfl
theorem mw_560 : (.methodLink RX5 40 arraycopyName : Cond) ∈ gwL := gw_at 3 (z := tables_1_3) rfl (List.mem_of_getElem? (i := 55) rfl) rfl
theorem mw_561 : (.fieldLink RX5 46 "SetAgain$Law" "coded" "I" : Cond) ∈ gwL := gw_at 1 (z := tables_1_1) rfl (List.mem_of_getElem? (i := 48) rfl) rfl
theorem mw_562 : (.fieldLink RX5 49 "SetAgain$Law" "holds" "Z" : Cond) ∈ gwL := gw_at 1 (z := tables_1_1) rfl (List.mem_of_getElem? (i := 40) rfl) rfl
theorem mw_563 : (.code yX5_isRead cX5_isRead 1 (some .int) : Cond) ∈ gwL := gw_at 2 (z := tables_1_2) rfl (List.mem_of_getElem? (i := 236) rfl) rfl
theorem mw_564 : (.methodLink RX11 139 yX5_isRead : Cond) ∈ gwL := gw_at 2 (z := tables_1_2) rfl (List.mem_of_getElem? (i := 233) rfl) rfl
theorem mw_565 : (.instanceMethod yX5_isRead : Cond) ∈ gwL := gw_at 2 (z := tables_1_2) rfl (List.mem_of_getElem? (i := 234) rfl) rfl
theorem mw_566 : (.selects RX5 yX5_isRead yX5_isRead : Cond) ∈ gwL := gw_at 2 (z := tables_1_2) rfl (List.mem_of_getElem? (i := 235) rfl) rfl
theorem mw_567 : (.methodLink RX1 29 arraycopyName : Cond) ∈ gwL := gw_at 2 (z := tables_1_2) rfl (List.mem_of_getElem? (i := 207) rfl) rfl
theorem mw_568 : (.code yX5_fail cX5_fail 1 none : Cond) ∈ gwL := gw_at 3 (z := tables_1_3) rfl (List.mem_of_getElem? (i := 50) rfl) rfl
theorem mw_569 : (.methodLink RX5 60 yX5_fail : Cond) ∈ gwL := gw_at 3 (z := tables_1_3) rfl (List.mem_of_getElem? (i := 47) rfl) rfl
theorem mw_570 : (.instanceMethod yX5_fail : Cond) ∈ gwL := gw_at 3 (z := tables_1_3) rfl (List.mem_of_getElem? (i := 49) rfl) rfl
theorem mw_571 : (.selects RX5 yX5_fail yX5_fail : Cond) ∈ gwL := gw_at 0 (z := (k2_sels lw_privs)) rfl (List.mem_of_getElem? (i := 15) rfl) rfl
theorem mw_572 : (.fieldLink RX5 21 "SetAgain$Law" "stack" "[I" : Cond) ∈ gwL := gw_at 1 (z := tables_1_1) rfl (List.mem_of_getElem? (i := 44) rfl) rfl
theorem mw_573 : (.code yX5_opened cX5_opened 3 none : Cond) ∈ gwL := gw_at 3 (z := tables_1_3) rfl (List.mem_of_getElem? (i := 54) rfl) rfl
theorem mw_574 : (.methodLink RX5 95 yX5_opened : Cond) ∈ gwL := gw_at 3 (z := tables_1_3) rfl (List.mem_of_getElem? (i := 51) rfl) rfl
theorem mw_575 : (.instanceMethod yX5_opened : Cond) ∈ gwL := gw_at 3 (z := tables_1_3) rfl (List.mem_of_getElem? (i := 53) rfl) rfl
theorem mw_576 : (.selects RX5 yX5_opened yX5_opened : Cond) ∈ gwL := gw_at 0 (z := (k2_sels lw_privs)) rfl (List.mem_of_getElem? (i := 16) rfl) rfl
theorem mw_577 : (.code yX1_dropOldest cX1_dropOldest 1 none : Cond) ∈ gwL := gw_at 2 (z := tables_1_2) rfl (List.mem_of_getElem? (i := 206) rfl) rfl
theorem mw_578 : (.methodLink RX1 23 yX1_dropOldest : Cond) ∈ gwL := gw_at 2 (z := tables_1_2) rfl (List.mem_of_getElem? (i := 203) rfl) rfl
theorem mw_579 : (.instanceMethod yX1_dropOldest : Cond) ∈ gwL := gw_at 2 (z := tables_1_2) rfl (List.mem_of_getElem? (i := 205) rfl) rfl
theorem mw_580 : (.selects RX1 yX1_dropOldest yX1_dropOldest : Cond) ∈ gwL := gw_at 0 (z := (k2_sels lw_privs)) rfl (List.mem_of_getElem? (i := 3) rfl) rfl
theorem mw_581 : (.code yX5_valueOf cX5_valueOf 10 (some .int) : Cond) ∈ gwL := gw_at 3 (z := tables_1_3) rfl (List.mem_of_getElem? (i := 79) rfl) rfl
theorem mw_582 : (.methodLink RX0 53 yX5_valueOf : Cond) ∈ gwL := gw_at 3 (z := tables_1_3) rfl (List.mem_of_getElem? (i := 76) rfl) rfl
theorem mw_583 : (.instanceMethod yX5_valueOf : Cond) ∈ gwL := gw_at 3 (z := tables_1_3) rfl (List.mem_of_getElem? (i := 77) rfl) rfl
theorem mw_584 : (.selects RX5 yX5_valueOf yX5_valueOf : Cond) ∈ gwL := gw_at 3 (z := tables_1_3) rfl (List.mem_of_getElem? (i := 78) rfl) rfl
theorem mw_585 : (.code yX0_forgetAll cX0_forgetAll 2 none : Cond) ∈ gwL := gw_at 3 (z := tables_1_3) rfl (List.mem_of_getElem? (i := 59) rfl) rfl
theorem mw_586 : (.methodLink RX11 143 yX0_forgetAll : Cond) ∈ gwL := gw_at 3 (z := tables_1_3) rfl (List.mem_of_getElem? (i := 56) rfl) rfl
theorem mw_587 : (.instanceMethod yX0_forgetAll : Cond) ∈ gwL := gw_at 3 (z := tables_1_3) rfl (List.mem_of_getElem? (i := 57) rfl) rfl
theorem mw_588 : (.selects RX0 yX0_forgetAll yX0_forgetAll : Cond) ∈ gwL := gw_at 3 (z := tables_1_3) rfl (List.mem_of_getElem? (i := 58) rfl) rfl
theorem mw_589 : (.code yX5_operands cX5_operands 1 (some .int) : Cond) ∈ gwL := gw_at 3 (z := tables_1_3) rfl (List.mem_of_getElem? (i := 82) rfl) rfl
theorem mw_590 : (.methodLink RX5 99 yX5_operands : Cond) ∈ gwL := gw_at 3 (z := tables_1_3) rfl (List.mem_of_getElem? (i := 80) rfl) rfl
theorem mw_591 : (.static yX5_operands : Cond) ∈ gwL := gw_at 3 (z := tables_1_3) rfl (List.mem_of_getElem? (i := 81) rfl) rfl
theorem mw_592 : (.methodLink RX5 111 Lib.Math.abs.name : Cond) ∈ gwL := gw_at 3 (z := tables_1_3) rfl (List.mem_of_getElem? (i := 86) rfl) rfl
theorem mw_593 : (.code yX5_worked cX5_worked 3 (some .int) : Cond) ∈ gwL := gw_at 3 (z := tables_1_3) rfl (List.mem_of_getElem? (i := 91) rfl) rfl
theorem mw_594 : (.methodLink RX5 107 yX5_worked : Cond) ∈ gwL := gw_at 3 (z := tables_1_3) rfl (List.mem_of_getElem? (i := 89) rfl) rfl
theorem mw_595 : (.static yX5_worked : Cond) ∈ gwL := gw_at 3 (z := tables_1_3) rfl (List.mem_of_getElem? (i := 90) rfl) rfl
theorem mw_596 : (.code yX5_named cX5_named 5 (some .int) : Cond) ∈ gwL := gw_at 3 (z := tables_1_3) rfl (List.mem_of_getElem? (i := 85) rfl) rfl
theorem mw_597 : (.methodLink RX5 103 yX5_named : Cond) ∈ gwL := gw_at 3 (z := tables_1_3) rfl (List.mem_of_getElem? (i := 83) rfl) rfl
theorem mw_598 : (.static yX5_named : Cond) ∈ gwL := gw_at 3 (z := tables_1_3) rfl (List.mem_of_getElem? (i := 84) rfl) rfl
theorem mw_599 : (.fieldLink RX12 100 "SetAgainModel" "done" "I" : Cond) ∈ gwL := gw_at 5 (z := tables_1_5) rfl (List.mem_of_getElem? (i := 67) rfl) rfl
theorem mw_600 : (.fieldLink RX12 9 "SetAgainModel" "may" "[I" : Cond) ∈ gwL := gw_at 5 (z := tables_1_5) rfl (List.mem_of_getElem? (i := 62) rfl) rfl
theorem mw_601 : (.fieldLink RX12 13 "SetAgainModel" "changeAt" "[I" : Cond) ∈ gwL := gw_at 5 (z := tables_1_5) rfl (List.mem_of_getElem? (i := 63) rfl) rfl
theorem mw_602 : (.fieldLink RX12 16 "SetAgainModel" "changeWas" "[I" : Cond) ∈ gwL := gw_at 5 (z := tables_1_5) rfl (List.mem_of_getElem? (i := 64) rfl) rfl
theorem mw_603 : (.fieldLink RX12 103 "SetAgainModel" "keptMany" "I" : Cond) ∈ gwL := gw_at 5 (z := tables_1_5) rfl (List.mem_of_getElem? (i := 66) rfl) rfl
theorem mw_604 : (.fieldLink RX12 19 "SetAgainModel" "changeIs" "[I" : Cond) ∈ gwL := gw_at 5 (z := tables_1_5) rfl (List.mem_of_getElem? (i := 65) rfl) rfl
theorem mw_605 : (.constantLong RX12 154 (255) : Cond) ∈ gwL := gw_at 6 (z := tables_1_6) rfl (List.mem_of_getElem? (i := 54) rfl) rfl
theorem mw_606 : (.fieldLink RX12 156 "SetAgainModel" "tapeMany" "I" : Cond) ∈ gwL := gw_at 5 (z := tables_1_5) rfl (List.mem_of_getElem? (i := 71) rfl) rfl
theorem mw_607 : (.fieldLink RX12 22 "SetAgainModel" "stands" "[I" : Cond) ∈ gwL := gw_at 5 (z := tables_1_5) rfl (List.mem_of_getElem? (i := 69) rfl) rfl
theorem mw_608 : (.fieldLink RX12 337 "SetAgainModel" "ledShifts" "I" : Cond) ∈ gwL := gw_at 5 (z := tables_1_5) rfl (List.mem_of_getElem? (i := 100) rfl) rfl
theorem mw_609 : (.fieldLink RX12 340 "SetAgainModel" "ledTurns" "I" : Cond) ∈ gwL := gw_at 5 (z := tables_1_5) rfl (List.mem_of_getElem? (i := 101) rfl) rfl
theorem mw_610 : (.fieldLink RX12 343 "SetAgainModel" "ledLosses" "I" : Cond) ∈ gwL := gw_at 5 (z := tables_1_5) rfl (List.mem_of_getElem? (i := 102) rfl) rfl
theorem mw_611 : (.fieldLink RX12 346 "SetAgainModel" "ledDearest" "I" : Cond) ∈ gwL := gw_at 5 (z := tables_1_5) rfl (List.mem_of_getElem? (i := 103) rfl) rfl
theorem mw_612 : (.fieldLink RX12 91 "SetAgainModel" "ledWho" "I" : Cond) ∈ gwL := gw_at 5 (z := tables_1_5) rfl (List.mem_of_getElem? (i := 104) rfl) rfl
theorem mw_613 : (.fieldLink RX12 349 "SetAgainModel" "isKept" "Z" : Cond) ∈ gwL := gw_at 5 (z := tables_1_5) rfl (List.mem_of_getElem? (i := 105) rfl) rfl
theorem mw_614 : (.fieldLink RX12 65 "SetAgainModel" "image" "[I" : Cond) ∈ gwL := gw_at 5 (z := tables_1_5) rfl (List.mem_of_getElem? (i := 106) rfl) rfl
theorem mw_615 : (.code yX12_led cX12_led 2 (some .int) : Cond) ∈ gwL := gw_at 7 (z := tables_1_7) rfl (List.mem_of_getElem? (i := 60) rfl) rfl
theorem mw_616 : (.methodLink RX12 352 yX12_led : Cond) ∈ gwL := gw_at 7 (z := tables_1_7) rfl (List.mem_of_getElem? (i := 65) rfl) rfl
theorem mw_617 : (.instanceMethod yX12_led : Cond) ∈ gwL := gw_at 7 (z := tables_1_7) rfl (List.mem_of_getElem? (i := 58) rfl) rfl
theorem mw_618 : (.selects RX12 yX12_led yX12_led : Cond) ∈ gwL := gw_at 7 (z := tables_1_7) rfl (List.mem_of_getElem? (i := 59) rfl) rfl
theorem mw_619 : (.initialized RX12 : Cond) ∈ gwL := gw_at 1 (z := tables_1_1) rfl (List.mem_of_getElem? (i := 13) rfl) rfl
theorem mw_620 : (.constantLong RX12 133 (7) : Cond) ∈ gwL := gw_at 6 (z := tables_1_6) rfl (List.mem_of_getElem? (i := 29) rfl) rfl
theorem mw_621 : (.fieldLink RX12 358 "SetAgainModel" "ran" "I" : Cond) ∈ gwL := gw_at 5 (z := tables_1_5) rfl (List.mem_of_getElem? (i := 110) rfl) rfl
theorem mw_622 : (.fieldLink RX12 106 "SetAgainModel" "sitters" "I" : Cond) ∈ gwL := gw_at 5 (z := tables_1_5) rfl (List.mem_of_getElem? (i := 68) rfl) rfl
theorem mw_623 : (.fieldLink RX12 355 "SetAgainModel" "bodies" "I" : Cond) ∈ gwL := gw_at 5 (z := tables_1_5) rfl (List.mem_of_getElem? (i := 107) rfl) rfl
theorem mw_624 : (.fieldLink RX12 165 "SetAgainModel" "base" "I" : Cond) ∈ gwL := gw_at 5 (z := tables_1_5) rfl (List.mem_of_getElem? (i := 74) rfl) rfl
theorem mw_625 : (.fieldLink RX12 159 "SetAgainModel" "at" "I" : Cond) ∈ gwL := gw_at 5 (z := tables_1_5) rfl (List.mem_of_getElem? (i := 75) rfl) rfl
theorem mw_626 : (.fieldLink RX12 162 "SetAgainModel" "ends" "I" : Cond) ∈ gwL := gw_at 5 (z := tables_1_5) rfl (List.mem_of_getElem? (i := 76) rfl) rfl
theorem mw_627 : (.fieldLink RX12 168 "SetAgainModel" "fault" "I" : Cond) ∈ gwL := gw_at 5 (z := tables_1_5) rfl (List.mem_of_getElem? (i := 77) rfl) rfl
theorem mw_628 : (.fieldLink RX12 193 "SetAgainModel" "opened" "I" : Cond) ∈ gwL := gw_at 5 (z := tables_1_5) rfl (List.mem_of_getElem? (i := 78) rfl) rfl
theorem mw_629 : (.constantLong RX12 113 (2) : Cond) ∈ gwL := gw_at 6 (z := tables_1_6) rfl (List.mem_of_getElem? (i := 38) rfl) rfl
theorem mw_630 : (.code yX12_within cX12_within 6 (some .boolean) : Cond) ∈ gwL := gw_at 6 (z := tables_1_6) rfl (List.mem_of_getElem? (i := 6) rfl) rfl
theorem mw_631 : (.methodLink RX12 109 yX12_within : Cond) ∈ gwL := gw_at 6 (z := tables_1_6) rfl (List.mem_of_getElem? (i := 4) rfl) rfl
theorem mw_632 : (.static yX12_within : Cond) ∈ gwL := gw_at 6 (z := tables_1_6) rfl (List.mem_of_getElem? (i := 5) rfl) rfl
theorem mw_633 : (.constantLong RX12 131 (8) : Cond) ∈ gwL := gw_at 6 (z := tables_1_6) rfl (List.mem_of_getElem? (i := 20) rfl) rfl
theorem mw_634 : (.constantLong RX12 138 (9) : Cond) ∈ gwL := gw_at 6 (z := tables_1_6) rfl (List.mem_of_getElem? (i := 34) rfl) rfl
theorem mw_635 : (.code yX12_isPart cX12_isPart 1 (some .boolean) : Cond) ∈ gwL := gw_at 6 (z := tables_1_6) rfl (List.mem_of_getElem? (i := 37) rfl) rfl
theorem mw_636 : (.methodLink RX12 140 yX12_isPart : Cond) ∈ gwL := gw_at 6 (z := tables_1_6) rfl (List.mem_of_getElem? (i := 35) rfl) rfl
theorem mw_637 : (.static yX12_isPart : Cond) ∈ gwL := gw_at 6 (z := tables_1_6) rfl (List.mem_of_getElem? (i := 36) rfl) rfl
theorem mw_638 : (.constantLong RX12 385 (5) : Cond) ∈ gwL := gw_at 6 (z := tables_1_6) rfl (List.mem_of_getElem? (i := 19) rfl) rfl
theorem mw_639 : (.constantLong RX12 115 (60) : Cond) ∈ gwL := gw_at 6 (z := tables_1_6) rfl (List.mem_of_getElem? (i := 3) rfl) rfl
theorem mw_640 : (.code yX12_isShelf cX12_isShelf 1 (some .boolean) : Cond) ∈ gwL := gw_at 6 (z := tables_1_6) rfl (List.mem_of_getElem? (i := 18) rfl) rfl
theorem mw_641 : (.methodLink RX12 127 yX12_isShelf : Cond) ∈ gwL := gw_at 6 (z := tables_1_6) rfl (List.mem_of_getElem? (i := 16) rfl) rfl
theorem mw_642 : (.static yX12_isShelf : Cond) ∈ gwL := gw_at 6 (z := tables_1_6) rfl (List.mem_of_getElem? (i := 17) rfl) rfl
theorem mw_643 : (.fieldLink RX12 74 "SetAgainModel" "shelf" "[I" : Cond) ∈ gwL := gw_at 5 (z := tables_1_5) rfl (List.mem_of_getElem? (i := 113) rfl) rfl
theorem mw_644 : (.constantLong RX12 387 (4) : Cond) ∈ gwL := gw_at 7 (z := tables_1_7) rfl (List.mem_of_getElem? (i := 114) rfl) rfl
theorem mw_645 : (.fieldLink RX12 77 "SetAgainModel" "many" "[I" : Cond) ∈ gwL := gw_at 5 (z := tables_1_5) rfl (List.mem_of_getElem? (i := 114) rfl) rfl
theorem mw_646 : (.fieldLink RX12 80 "SetAgainModel" "items" "[J" : Cond) ∈ gwL := gw_at 5 (z := tables_1_5) rfl (List.mem_of_getElem? (i := 115) rfl) rfl
theorem mw_647 : (.fieldLink RX12 68 "SetAgainModel" "bodyKind" "[I" : Cond) ∈ gwL := gw_at 5 (z := tables_1_5) rfl (List.mem_of_getElem? (i := 108) rfl) rfl
theorem mw_648 : (.code yX12_slipped cX12_slipped 4 (some .int) : Cond) ∈ gwL := gw_at 6 (z := tables_1_6) rfl (List.mem_of_getElem? (i := 181) rfl) rfl
theorem mw_649 : (.methodLink RX12 248 yX12_slipped : Cond) ∈ gwL := gw_at 6 (z := tables_1_6) rfl (List.mem_of_getElem? (i := 178) rfl) rfl
theorem mw_650 : (.instanceMethod yX12_slipped : Cond) ∈ gwL := gw_at 6 (z := tables_1_6) rfl (List.mem_of_getElem? (i := 180) rfl) rfl
theorem mw_651 : (.selects RX12 yX12_slipped yX12_slipped : Cond) ∈ gwL := gw_at 0 (z := (k2_sels lw_privs)) rfl (List.mem_of_getElem? (i := 73) rfl) rfl
theorem mw_652 : (.code yX12_isSetting cX12_isSetting 2 (some .boolean) : Cond) ∈ gwL := gw_at 6 (z := tables_1_6) rfl (List.mem_of_getElem? (i := 2) rfl) rfl
theorem mw_653 : (.methodLink RX12 117 yX12_isSetting : Cond) ∈ gwL := gw_at 6 (z := tables_1_6) rfl (List.mem_of_getElem? (i := 0) rfl) rfl
theorem mw_654 : (.static yX12_isSetting : Cond) ∈ gwL := gw_at 6 (z := tables_1_6) rfl (List.mem_of_getElem? (i := 1) rfl) rfl
theorem mw_655 : (.fieldLink RX12 25 "SetAgainModel" "tape" "[I" : Cond) ∈ gwL := gw_at 5 (z := tables_1_5) rfl (List.mem_of_getElem? (i := 70) rfl) rfl
theorem mw_656 : (.code yX12_placeOf cX12_placeOf 3 (some .int) : Cond) ∈ gwL := gw_at 6 (z := tables_1_6) rfl (List.mem_of_getElem? (i := 28) rfl) rfl
theorem mw_657 : (.methodLink RX12 143 yX12_placeOf : Cond) ∈ gwL := gw_at 6 (z := tables_1_6) rfl (List.mem_of_getElem? (i := 25) rfl) rfl
theorem mw_658 : (.instanceMethod yX12_placeOf : Cond) ∈ gwL := gw_at 6 (z := tables_1_6) rfl (List.mem_of_getElem? (i := 27) rfl) rfl
theorem mw_659 : (.selects RX12 yX12_placeOf yX12_placeOf : Cond) ∈ gwL := gw_at 0 (z := (k2_sels lw_privs)) rfl (List.mem_of_getElem? (i := 47) rfl) rfl
theorem mw_660 : (.constantLong RX12 121 (12) : Cond) ∈ gwL := gw_at 6 (z := tables_1_6) rfl (List.mem_of_getElem? (i := 7) rfl) rfl
theorem mw_661 : (.fieldLink RX12 84 "SetAgainModel" "carried" "[J" : Cond) ∈ gwL := gw_at 5 (z := tables_1_5) rfl (List.mem_of_getElem? (i := 116) rfl) rfl
theorem mw_662 : (.code yX12_isSitter cX12_isSitter 3 (some .boolean) : Cond) ∈ gwL := gw_at 6 (z := tables_1_6) rfl (List.mem_of_getElem? (i := 33) rfl) rfl
theorem mw_663 : (.methodLink RX12 135 yX12_isSitter : Cond) ∈ gwL := gw_at 6 (z := tables_1_6) rfl (List.mem_of_getElem? (i := 30) rfl) rfl
theorem mw_664 : (.instanceMethod yX12_isSitter : Cond) ∈ gwL := gw_at 6 (z := tables_1_6) rfl (List.mem_of_getElem? (i := 32) rfl) rfl
theorem mw_665 : (.selects RX12 yX12_isSitter yX12_isSitter : Cond) ∈ gwL := gw_at 0 (z := (k2_sels lw_privs)) rfl (List.mem_of_getElem? (i := 48) rfl) rfl
theorem mw_666 : (.code yX12_kindOf cX12_kindOf 2 (some .int) : Cond) ∈ gwL := gw_at 7 (z := tables_1_7) rfl (List.mem_of_getElem? (i := 142) rfl) rfl
theorem mw_667 : (.methodLink RX12 400 yX12_kindOf : Cond) ∈ gwL := gw_at 7 (z := tables_1_7) rfl (List.mem_of_getElem? (i := 139) rfl) rfl
theorem mw_668 : (.instanceMethod yX12_kindOf : Cond) ∈ gwL := gw_at 7 (z := tables_1_7) rfl (List.mem_of_getElem? (i := 141) rfl) rfl
theorem mw_669 : (.selects RX12 yX12_kindOf yX12_kindOf : Cond) ∈ gwL := gw_at 0 (z := (k2_sels lw_privs)) rfl (List.mem_of_getElem? (i := 93) rfl) rfl
theorem mw_670 : (.code yX12_refusal cX12_refusal 3 (some .int) : Cond) ∈ gwL := gw_at 7 (z := tables_1_7) rfl (List.mem_of_getElem? (i := 122) rfl) rfl
theorem mw_671 : (.methodLink RX12 389 yX12_refusal : Cond) ∈ gwL := gw_at 7 (z := tables_1_7) rfl (List.mem_of_getElem? (i := 119) rfl) rfl
theorem mw_672 : (.instanceMethod yX12_refusal : Cond) ∈ gwL := gw_at 7 (z := tables_1_7) rfl (List.mem_of_getElem? (i := 121) rfl) rfl
theorem mw_673 : (.selects RX12 yX12_refusal yX12_refusal : Cond) ∈ gwL := gw_at 0 (z := (k2_sels lw_privs)) rfl (List.mem_of_getElem? (i := 92) rfl) rfl
theorem mw_674 : (.constantLong RX12 398 (-9223372036854775808) : Cond) ∈ gwL := gw_at 7 (z := tables_1_7) rfl (List.mem_of_getElem? (i := 130) rfl) rfl
theorem mw_675 : (.code yX12_isBody cX12_isBody 2 (some .boolean) : Cond) ∈ gwL := gw_at 7 (z := tables_1_7) rfl (List.mem_of_getElem? (i := 81) rfl) rfl
theorem mw_676 : (.methodLink RX12 382 yX12_isBody : Cond) ∈ gwL := gw_at 7 (z := tables_1_7) rfl (List.mem_of_getElem? (i := 78) rfl) rfl
theorem mw_677 : (.instanceMethod yX12_isBody : Cond) ∈ gwL := gw_at 7 (z := tables_1_7) rfl (List.mem_of_getElem? (i := 80) rfl) rfl
theorem mw_678 : (.selects RX12 yX12_isBody yX12_isBody : Cond) ∈ gwL := gw_at 0 (z := (k2_sels lw_privs)) rfl (List.mem_of_getElem? (i := 86) rfl) rfl
theorem mw_679 : (.fieldLink RX12 373 "SetAgainModel" "ownKind" "I" : Cond) ∈ gwL := gw_at 5 (z := tables_1_5) rfl (List.mem_of_getElem? (i := 111) rfl) rfl
theorem mw_680 : (.fieldLink RX12 367 "SetAgainModel" "ownNumber" "I" : Cond) ∈ gwL := gw_at 5 (z := tables_1_5) rfl (List.mem_of_getElem? (i := 112) rfl) rfl
theorem mw_681 : (.code yX12_sizeOf cX12_sizeOf 1 (some .int) : Cond) ∈ gwL := gw_at 6 (z := tables_1_6) rfl (List.mem_of_getElem? (i := 116) rfl) rfl
theorem mw_682 : (.methodLink RX12 211 yX12_sizeOf : Cond) ∈ gwL := gw_at 6 (z := tables_1_6) rfl (List.mem_of_getElem? (i := 114) rfl) rfl
theorem mw_683 : (.static yX12_sizeOf : Cond) ∈ gwL := gw_at 6 (z := tables_1_6) rfl (List.mem_of_getElem? (i := 115) rfl) rfl
theorem mw_684 : (.code yX12_bytesIs cX12_bytesIs 2 (some .int) : Cond) ∈ gwL := gw_at 6 (z := tables_1_6) rfl (List.mem_of_getElem? (i := 124) rfl) rfl
theorem mw_685 : (.methodLink RX12 224 yX12_bytesIs : Cond) ∈ gwL := gw_at 6 (z := tables_1_6) rfl (List.mem_of_getElem? (i := 121) rfl) rfl
theorem mw_686 : (.instanceMethod yX12_bytesIs : Cond) ∈ gwL := gw_at 6 (z := tables_1_6) rfl (List.mem_of_getElem? (i := 123) rfl) rfl
theorem mw_687 : (.selects RX12 yX12_bytesIs yX12_bytesIs : Cond) ∈ gwL := gw_at 0 (z := (k2_sels lw_privs)) rfl (List.mem_of_getElem? (i := 62) rfl) rfl
theorem mw_688 : (.constantLong RX12 334 (20) : Cond) ∈ gwL := gw_at 7 (z := tables_1_7) rfl (List.mem_of_getElem? (i := 43) rfl) rfl
theorem mw_689 : (.constantLong RX12 323 (11) : Cond) ∈ gwL := gw_at 7 (z := tables_1_7) rfl (List.mem_of_getElem? (i := 21) rfl) rfl
theorem mw_690 : (.fieldLink RX12 59 "SetAgainModel" "canStand" "[Z" : Cond) ∈ gwL := gw_at 5 (z := tables_1_5) rfl (List.mem_of_getElem? (i := 98) rfl) rfl
theorem mw_691 : (.fieldLink RX12 62 "SetAgainModel" "canGoOn" "[Z" : Cond) ∈ gwL := gw_at 5 (z := tables_1_5) rfl (List.mem_of_getElem? (i := 99) rfl) rfl
theorem mw_692 : (.constantLong RX12 230 (3) : Cond) ∈ gwL := gw_at 6 (z := tables_1_6) rfl (List.mem_of_getElem? (i := 141) rfl) rfl
theorem mw_693 : (.fieldLink RX12 50 "SetAgainModel" "lossAt" "[I" : Cond) ∈ gwL := gw_at 5 (z := tables_1_5) rfl (List.mem_of_getElem? (i := 94) rfl) rfl
theorem mw_694 : (.constant RX12 308 (-2000000000) : Cond) ∈ gwL := gw_at 7 (z := tables_1_7) rfl (List.mem_of_getElem? (i := 0) rfl) rfl
theorem mw_695 : (.fieldLink RX12 275 "SetAgainModel" "memorySet" "I" : Cond) ∈ gwL := gw_at 5 (z := tables_1_5) rfl (List.mem_of_getElem? (i := 84) rfl) rfl
theorem mw_696 : (.fieldLink RX12 94 "SetAgainModel" "nearOf" "I" : Cond) ∈ gwL := gw_at 5 (z := tables_1_5) rfl (List.mem_of_getElem? (i := 82) rfl) rfl
theorem mw_697 : (.fieldLink RX12 259 "SetAgainModel" "nearIs" "I" : Cond) ∈ gwL := gw_at 5 (z := tables_1_5) rfl (List.mem_of_getElem? (i := 83) rfl) rfl
theorem mw_698 : (.code yX12_mostOf cX12_mostOf 1 (some .int) : Cond) ∈ gwL := gw_at 6 (z := tables_1_6) rfl (List.mem_of_getElem? (i := 41) rfl) rfl
theorem mw_699 : (.methodLink RX12 147 yX12_mostOf : Cond) ∈ gwL := gw_at 6 (z := tables_1_6) rfl (List.mem_of_getElem? (i := 39) rfl) rfl
theorem mw_700 : (.static yX12_mostOf : Cond) ∈ gwL := gw_at 6 (z := tables_1_6) rfl (List.mem_of_getElem? (i := 40) rfl) rfl
theorem mw_701 : (.code yX12_adds cX12_adds 6 none : Cond) ∈ gwL := gw_at 6 (z := tables_1_6) rfl (List.mem_of_getElem? (i := 11) rfl) rfl
theorem mw_702 : (.methodLink RX12 123 yX12_adds : Cond) ∈ gwL := gw_at 6 (z := tables_1_6) rfl (List.mem_of_getElem? (i := 8) rfl) rfl
theorem mw_703 : (.instanceMethod yX12_adds : Cond) ∈ gwL := gw_at 6 (z := tables_1_6) rfl (List.mem_of_getElem? (i := 10) rfl) rfl
theorem mw_704 : (.selects RX12 yX12_adds yX12_adds : Cond) ∈ gwL := gw_at 0 (z := (k2_sels lw_privs)) rfl (List.mem_of_getElem? (i := 46) rfl) rfl
theorem mw_705 : (.fieldLink RX12 44 "SetAgainModel" "stand1" "[I" : Cond) ∈ gwL := gw_at 5 (z := tables_1_5) rfl (List.mem_of_getElem? (i := 89) rfl) rfl
theorem mw_706 : (.fieldLink RX12 269 "SetAgainModel" "turnsAll" "I" : Cond) ∈ gwL := gw_at 5 (z := tables_1_5) rfl (List.mem_of_getElem? (i := 91) rfl) rfl
theorem mw_707 : (.fieldLink RX12 289 "SetAgainModel" "lossesAll" "I" : Cond) ∈ gwL := gw_at 5 (z := tables_1_5) rfl (List.mem_of_getElem? (i := 92) rfl) rfl
theorem mw_708 : (.fieldLink RX12 272 "SetAgainModel" "turnCosts" "I" : Cond) ∈ gwL := gw_at 5 (z := tables_1_5) rfl (List.mem_of_getElem? (i := 93) rfl) rfl
theorem mw_709 : (.code yX12_beginsWeek cX12_beginsWeek 2 none : Cond) ∈ gwL := gw_at 6 (z := tables_1_6) rfl (List.mem_of_getElem? (i := 197) rfl) rfl
theorem mw_710 : (.methodLink RX12 295 yX12_beginsWeek : Cond) ∈ gwL := gw_at 6 (z := tables_1_6) rfl (List.mem_of_getElem? (i := 194) rfl) rfl
theorem mw_711 : (.instanceMethod yX12_beginsWeek : Cond) ∈ gwL := gw_at 6 (z := tables_1_6) rfl (List.mem_of_getElem? (i := 196) rfl) rfl
theorem mw_712 : (.selects RX12 yX12_beginsWeek yX12_beginsWeek : Cond) ∈ gwL := gw_at 0 (z := (k2_sels lw_privs)) rfl (List.mem_of_getElem? (i := 75) rfl) rfl
theorem mw_713 : (.code yX12_shiftsOf cX12_shiftsOf 2 (some .int) : Cond) ∈ gwL := gw_at 6 (z := tables_1_6) rfl (List.mem_of_getElem? (i := 132) rfl) rfl
theorem mw_714 : (.methodLink RX12 218 yX12_shiftsOf : Cond) ∈ gwL := gw_at 6 (z := tables_1_6) rfl (List.mem_of_getElem? (i := 129) rfl) rfl
theorem mw_715 : (.instanceMethod yX12_shiftsOf : Cond) ∈ gwL := gw_at 6 (z := tables_1_6) rfl (List.mem_of_getElem? (i := 131) rfl) rfl
theorem mw_716 : (.selects RX12 yX12_shiftsOf yX12_shiftsOf : Cond) ∈ gwL := gw_at 0 (z := (k2_sels lw_privs)) rfl (List.mem_of_getElem? (i := 64) rfl) rfl
theorem mw_717 : (.fieldLink RX12 47 "SetAgainModel" "standBehind" "[I" : Cond) ∈ gwL := gw_at 5 (z := tables_1_5) rfl (List.mem_of_getElem? (i := 90) rfl) rfl
theorem mw_718 : (.fieldLink RX12 71 "SetAgainModel" "trace" "[I" : Cond) ∈ gwL := gw_at 5 (z := tables_1_5) rfl (List.mem_of_getElem? (i := 109) rfl) rfl
theorem mw_719 : (.code yX12_numberOf cX12_numberOf 3 (some .int) : Cond) ∈ gwL := gw_at 6 (z := tables_1_6) rfl (List.mem_of_getElem? (i := 113) rfl) rfl
theorem mw_720 : (.methodLink RX12 208 yX12_numberOf : Cond) ∈ gwL := gw_at 6 (z := tables_1_6) rfl (List.mem_of_getElem? (i := 110) rfl) rfl
theorem mw_721 : (.instanceMethod yX12_numberOf : Cond) ∈ gwL := gw_at 6 (z := tables_1_6) rfl (List.mem_of_getElem? (i := 112) rfl) rfl
theorem mw_722 : (.selects RX12 yX12_numberOf yX12_numberOf : Cond) ∈ gwL := gw_at 0 (z := (k2_sels lw_privs)) rfl (List.mem_of_getElem? (i := 61) rfl) rfl
theorem mw_723 : (.fieldLink RX12 87 "SetAgainModel" "textMany" "I" : Cond) ∈ gwL := gw_at 5 (z := tables_1_5) rfl (List.mem_of_getElem? (i := 73) rfl) rfl
theorem mw_724 : (.code yX12_whoSits cX12_whoSits 5 (some .int) : Cond) ∈ gwL := gw_at 6 (z := tables_1_6) rfl (List.mem_of_getElem? (i := 136) rfl) rfl
theorem mw_725 : (.methodLink RX12 221 yX12_whoSits : Cond) ∈ gwL := gw_at 6 (z := tables_1_6) rfl (List.mem_of_getElem? (i := 133) rfl) rfl
theorem mw_726 : (.instanceMethod yX12_whoSits : Cond) ∈ gwL := gw_at 6 (z := tables_1_6) rfl (List.mem_of_getElem? (i := 135) rfl) rfl
theorem mw_727 : (.selects RX12 yX12_whoSits yX12_whoSits : Cond) ∈ gwL := gw_at 0 (z := (k2_sels lw_privs)) rfl (List.mem_of_getElem? (i := 65) rfl) rfl
theorem mw_728 : (.code yX12_lossOf cX12_lossOf 7 (some .int) : Cond) ∈ gwL := gw_at 6 (z := tables_1_6) rfl (List.mem_of_getElem? (i := 109) rfl) rfl
theorem mw_729 : (.methodLink RX12 214 yX12_lossOf : Cond) ∈ gwL := gw_at 6 (z := tables_1_6) rfl (List.mem_of_getElem? (i := 106) rfl) rfl
theorem mw_730 : (.instanceMethod yX12_lossOf : Cond) ∈ gwL := gw_at 6 (z := tables_1_6) rfl (List.mem_of_getElem? (i := 108) rfl) rfl
theorem mw_731 : (.selects RX12 yX12_lossOf yX12_lossOf : Cond) ∈ gwL := gw_at 0 (z := (k2_sels lw_privs)) rfl (List.mem_of_getElem? (i := 60) rfl) rfl
theorem mw_732 : (.fieldLink RX12 40 "SetAgainModel" "isIll" "[Z" : Cond) ∈ gwL := gw_at 5 (z := tables_1_5) rfl (List.mem_of_getElem? (i := 88) rfl) rfl
theorem mw_733 : (.code yX12_begins cX12_begins 2 none : Cond) ∈ gwL := gw_at 7 (z := tables_1_7) rfl (List.mem_of_getElem? (i := 89) rfl) rfl
theorem mw_734 : (.methodLink RX12 361 yX12_begins : Cond) ∈ gwL := gw_at 7 (z := tables_1_7) rfl (List.mem_of_getElem? (i := 86) rfl) rfl
theorem mw_735 : (.instanceMethod yX12_begins : Cond) ∈ gwL := gw_at 7 (z := tables_1_7) rfl (List.mem_of_getElem? (i := 88) rfl) rfl
theorem mw_736 : (.selects RX12 yX12_begins yX12_begins : Cond) ∈ gwL := gw_at 0 (z := (k2_sels lw_privs)) rfl (List.mem_of_getElem? (i := 88) rfl) rfl
theorem mw_737 : (.code yX12_above cX12_above 1 (some .int) : Cond) ∈ gwL := gw_at 7 (z := tables_1_7) rfl (List.mem_of_getElem? (i := 145) rfl) rfl
theorem mw_738 : (.methodLink RX12 403 yX12_above : Cond) ∈ gwL := gw_at 7 (z := tables_1_7) rfl (List.mem_of_getElem? (i := 143) rfl) rfl
theorem mw_739 : (.static yX12_above : Cond) ∈ gwL := gw_at 7 (z := tables_1_7) rfl (List.mem_of_getElem? (i := 144) rfl) rfl
theorem mw_740 : (.code yX12_asSort cX12_asSort 3 (some .long) : Cond) ∈ gwL := gw_at 7 (z := tables_1_7) rfl (List.mem_of_getElem? (i := 125) rfl) rfl
theorem mw_741 : (.methodLink RX12 392 yX12_asSort : Cond) ∈ gwL := gw_at 7 (z := tables_1_7) rfl (List.mem_of_getElem? (i := 123) rfl) rfl
theorem mw_742 : (.static yX12_asSort : Cond) ∈ gwL := gw_at 7 (z := tables_1_7) rfl (List.mem_of_getElem? (i := 124) rfl) rfl
theorem mw_743 : (.code yX12_setsAs cX12_setsAs 3 (some .int) : Cond) ∈ gwL := gw_at 7 (z := tables_1_7) rfl (List.mem_of_getElem? (i := 85) rfl) rfl
theorem mw_744 : (.methodLink RX12 364 yX12_setsAs : Cond) ∈ gwL := gw_at 7 (z := tables_1_7) rfl (List.mem_of_getElem? (i := 82) rfl) rfl
theorem mw_745 : (.instanceMethod yX12_setsAs : Cond) ∈ gwL := gw_at 7 (z := tables_1_7) rfl (List.mem_of_getElem? (i := 84) rfl) rfl
theorem mw_746 : (.selects RX12 yX12_setsAs yX12_setsAs : Cond) ∈ gwL := gw_at 0 (z := (k2_sels lw_privs)) rfl (List.mem_of_getElem? (i := 87) rfl) rfl
theorem mw_747 : (.code yX12_slipsAs cX12_slipsAs 4 (some .int) : Cond) ∈ gwL := gw_at 7 (z := tables_1_7) rfl (List.mem_of_getElem? (i := 97) rfl) rfl
theorem mw_748 : (.methodLink RX12 376 yX12_slipsAs : Cond) ∈ gwL := gw_at 7 (z := tables_1_7) rfl (List.mem_of_getElem? (i := 94) rfl) rfl
theorem mw_749 : (.instanceMethod yX12_slipsAs : Cond) ∈ gwL := gw_at 7 (z := tables_1_7) rfl (List.mem_of_getElem? (i := 96) rfl) rfl
theorem mw_750 : (.selects RX12 yX12_slipsAs yX12_slipsAs : Cond) ∈ gwL := gw_at 0 (z := (k2_sels lw_privs)) rfl (List.mem_of_getElem? (i := 90) rfl) rfl
theorem mw_751 : (.code yX12_weekOf cX12_weekOf 5 (some .int) : Cond) ∈ gwL := gw_at 6 (z := tables_1_6) rfl (List.mem_of_getElem? (i := 193) rfl) rfl
theorem mw_752 : (.methodLink RX12 302 yX12_weekOf : Cond) ∈ gwL := gw_at 6 (z := tables_1_6) rfl (List.mem_of_getElem? (i := 190) rfl) rfl
theorem mw_753 : (.instanceMethod yX12_weekOf : Cond) ∈ gwL := gw_at 6 (z := tables_1_6) rfl (List.mem_of_getElem? (i := 192) rfl) rfl
theorem mw_754 : (.selects RX12 yX12_weekOf yX12_weekOf : Cond) ∈ gwL := gw_at 0 (z := (k2_sels lw_privs)) rfl (List.mem_of_getElem? (i := 74) rfl) rfl
theorem mw_755 : (.constant RX12 336 (1103515245) : Cond) ∈ gwL := gw_at 7 (z := tables_1_7) rfl (List.mem_of_getElem? (i := 44) rfl) rfl
theorem mw_756 : (.code yX12_may1 cX12_may1 2 (some .boolean) : Cond) ∈ gwL := gw_at 7 (z := tables_1_7) rfl (List.mem_of_getElem? (i := 25) rfl) rfl
theorem mw_757 : (.methodLink RX12 325 yX12_may1 : Cond) ∈ gwL := gw_at 7 (z := tables_1_7) rfl (List.mem_of_getElem? (i := 22) rfl) rfl
theorem mw_758 : (.instanceMethod yX12_may1 : Cond) ∈ gwL := gw_at 7 (z := tables_1_7) rfl (List.mem_of_getElem? (i := 24) rfl) rfl
theorem mw_759 : (.selects RX12 yX12_may1 yX12_may1 : Cond) ∈ gwL := gw_at 0 (z := (k2_sels lw_privs)) rfl (List.mem_of_getElem? (i := 83) rfl) rfl
theorem mw_760 : (.fieldLink RX12 97 "SetAgainModel" "wilfulOf" "I" : Cond) ∈ gwL := gw_at 5 (z := tables_1_5) rfl (List.mem_of_getElem? (i := 86) rfl) rfl
theorem mw_761 : (.fieldLink RX12 292 "SetAgainModel" "wilfulTo" "I" : Cond) ∈ gwL := gw_at 5 (z := tables_1_5) rfl (List.mem_of_getElem? (i := 87) rfl) rfl
theorem mw_762 : (.fieldLink RX12 262 "SetAgainModel" "isMarked" "Z" : Cond) ∈ gwL := gw_at 5 (z := tables_1_5) rfl (List.mem_of_getElem? (i := 85) rfl) rfl
theorem mw_763 : (.code yX12_bitsOf cX12_bitsOf 3 (some .int) : Cond) ∈ gwL := gw_at 6 (z := tables_1_6) rfl (List.mem_of_getElem? (i := 231) rfl) rfl
theorem mw_764 : (.methodLink RX12 305 yX12_bitsOf : Cond) ∈ gwL := gw_at 6 (z := tables_1_6) rfl (List.mem_of_getElem? (i := 229) rfl) rfl
theorem mw_765 : (.static yX12_bitsOf : Cond) ∈ gwL := gw_at 6 (z := tables_1_6) rfl (List.mem_of_getElem? (i := 230) rfl) rfl
theorem mw_766 : (.code yX12_weightTo cX12_weightTo 7 (some .int) : Cond) ∈ gwL := gw_at 6 (z := tables_1_6) rfl (List.mem_of_getElem? (i := 157) rfl) rfl
theorem mw_767 : (.methodLink RX12 241 yX12_weightTo : Cond) ∈ gwL := gw_at 6 (z := tables_1_6) rfl (List.mem_of_getElem? (i := 154) rfl) rfl
theorem mw_768 : (.instanceMethod yX12_weightTo : Cond) ∈ gwL := gw_at 6 (z := tables_1_6) rfl (List.mem_of_getElem? (i := 156) rfl) rfl
theorem mw_769 : (.selects RX12 yX12_weightTo yX12_weightTo : Cond) ∈ gwL := gw_at 0 (z := (k2_sels lw_privs)) rfl (List.mem_of_getElem? (i := 68) rfl) rfl
theorem mw_770 : (.code yX12_anySits cX12_anySits 3 (some .boolean) : Cond) ∈ gwL := gw_at 6 (z := tables_1_6) rfl (List.mem_of_getElem? (i := 145) rfl) rfl
theorem mw_771 : (.methodLink RX12 232 yX12_anySits : Cond) ∈ gwL := gw_at 6 (z := tables_1_6) rfl (List.mem_of_getElem? (i := 142) rfl) rfl
theorem mw_772 : (.instanceMethod yX12_anySits : Cond) ∈ gwL := gw_at 6 (z := tables_1_6) rfl (List.mem_of_getElem? (i := 144) rfl) rfl
theorem mw_773 : (.selects RX12 yX12_anySits yX12_anySits : Cond) ∈ gwL := gw_at 0 (z := (k2_sels lw_privs)) rfl (List.mem_of_getElem? (i := 66) rfl) rfl
theorem mw_774 : (.code yX12_neverOf cX12_neverOf 6 (some .int) : Cond) ∈ gwL := gw_at 6 (z := tables_1_6) rfl (List.mem_of_getElem? (i := 128) rfl) rfl
theorem mw_775 : (.methodLink RX12 227 yX12_neverOf : Cond) ∈ gwL := gw_at 6 (z := tables_1_6) rfl (List.mem_of_getElem? (i := 125) rfl) rfl
theorem mw_776 : (.instanceMethod yX12_neverOf : Cond) ∈ gwL := gw_at 6 (z := tables_1_6) rfl (List.mem_of_getElem? (i := 127) rfl) rfl
theorem mw_777 : (.selects RX12 yX12_neverOf yX12_neverOf : Cond) ∈ gwL := gw_at 0 (z := (k2_sels lw_privs)) rfl (List.mem_of_getElem? (i := 63) rfl) rfl
theorem mw_778 : (.code yX12_becomes cX12_becomes 5 (some .int) : Cond) ∈ gwL := gw_at 6 (z := tables_1_6) rfl (List.mem_of_getElem? (i := 45) rfl) rfl
theorem mw_779 : (.methodLink RX12 151 yX12_becomes : Cond) ∈ gwL := gw_at 6 (z := tables_1_6) rfl (List.mem_of_getElem? (i := 42) rfl) rfl
theorem mw_780 : (.instanceMethod yX12_becomes : Cond) ∈ gwL := gw_at 6 (z := tables_1_6) rfl (List.mem_of_getElem? (i := 44) rfl) rfl
theorem mw_781 : (.selects RX12 yX12_becomes yX12_becomes : Cond) ∈ gwL := gw_at 0 (z := (k2_sels lw_privs)) rfl (List.mem_of_getElem? (i := 49) rfl) rfl
theorem mw_782 : (.constantLong RX12 321 (-1) : Cond) ∈ gwL := gw_at 7 (z := tables_1_7) rfl (List.mem_of_getElem? (i := 34) rfl) rfl
theorem mw_783 : (.fieldLink RX12 34 "SetAgainModel" "lossIn" "[I" : Cond) ∈ gwL := gw_at 5 (z := tables_1_5) rfl (List.mem_of_getElem? (i := 80) rfl) rfl
theorem mw_784 : (.code yX12_nearBy cX12_nearBy 2 (some .int) : Cond) ∈ gwL := gw_at 6 (z := tables_1_6) rfl (List.mem_of_getElem? (i := 205) rfl) rfl
theorem mw_785 : (.methodLink RX12 282 yX12_nearBy : Cond) ∈ gwL := gw_at 6 (z := tables_1_6) rfl (List.mem_of_getElem? (i := 202) rfl) rfl
theorem mw_786 : (.instanceMethod yX12_nearBy : Cond) ∈ gwL := gw_at 6 (z := tables_1_6) rfl (List.mem_of_getElem? (i := 204) rfl) rfl
theorem mw_787 : (.selects RX12 yX12_nearBy yX12_nearBy : Cond) ∈ gwL := gw_at 0 (z := (k2_sels lw_privs)) rfl (List.mem_of_getElem? (i := 77) rfl) rfl
theorem mw_788 : (.code yX12_one cX12_one 5 (some .int) : Cond) ∈ gwL := gw_at 6 (z := tables_1_6) rfl (List.mem_of_getElem? (i := 86) rfl) rfl
theorem mw_789 : (.methodLink RX12 190 yX12_one : Cond) ∈ gwL := gw_at 6 (z := tables_1_6) rfl (List.mem_of_getElem? (i := 83) rfl) rfl
theorem mw_790 : (.instanceMethod yX12_one : Cond) ∈ gwL := gw_at 6 (z := tables_1_6) rfl (List.mem_of_getElem? (i := 85) rfl) rfl
theorem mw_791 : (.selects RX12 yX12_one yX12_one : Cond) ∈ gwL := gw_at 0 (z := (k2_sels lw_privs)) rfl (List.mem_of_getElem? (i := 56) rfl) rfl
theorem mw_792 : (.code yX12_weightOf cX12_weightOf 2 (some .int) : Cond) ∈ gwL := gw_at 6 (z := tables_1_6) rfl (List.mem_of_getElem? (i := 161) rfl) rfl
theorem mw_793 : (.methodLink RX12 238 yX12_weightOf : Cond) ∈ gwL := gw_at 6 (z := tables_1_6) rfl (List.mem_of_getElem? (i := 158) rfl) rfl
theorem mw_794 : (.instanceMethod yX12_weightOf : Cond) ∈ gwL := gw_at 6 (z := tables_1_6) rfl (List.mem_of_getElem? (i := 160) rfl) rfl
theorem mw_795 : (.selects RX12 yX12_weightOf yX12_weightOf : Cond) ∈ gwL := gw_at 0 (z := (k2_sels lw_privs)) rfl (List.mem_of_getElem? (i := 69) rfl) rfl
theorem mw_796 : (.code yX12_comes cX12_comes 4 none : Cond) ∈ gwL := gw_at 6 (z := tables_1_6) rfl (List.mem_of_getElem? (i := 201) rfl) rfl
theorem mw_797 : (.methodLink RX12 298 yX12_comes : Cond) ∈ gwL := gw_at 6 (z := tables_1_6) rfl (List.mem_of_getElem? (i := 198) rfl) rfl
theorem mw_798 : (.instanceMethod yX12_comes : Cond) ∈ gwL := gw_at 6 (z := tables_1_6) rfl (List.mem_of_getElem? (i := 200) rfl) rfl
theorem mw_799 : (.selects RX12 yX12_comes yX12_comes : Cond) ∈ gwL := gw_at 0 (z := (k2_sels lw_privs)) rfl (List.mem_of_getElem? (i := 76) rfl) rfl
theorem mw_800 : (.code yX12_sitsAs cX12_sitsAs 4 (some .int) : Cond) ∈ gwL := gw_at 7 (z := tables_1_7) rfl (List.mem_of_getElem? (i := 93) rfl) rfl
theorem mw_801 : (.methodLink RX12 370 yX12_sitsAs : Cond) ∈ gwL := gw_at 7 (z := tables_1_7) rfl (List.mem_of_getElem? (i := 90) rfl) rfl
theorem mw_802 : (.instanceMethod yX12_sitsAs : Cond) ∈ gwL := gw_at 7 (z := tables_1_7) rfl (List.mem_of_getElem? (i := 92) rfl) rfl
theorem mw_803 : (.selects RX12 yX12_sitsAs yX12_sitsAs : Cond) ∈ gwL := gw_at 0 (z := (k2_sels lw_privs)) rfl (List.mem_of_getElem? (i := 89) rfl) rfl
theorem mw_804 : (.code yX12_isSeen cX12_isSeen 6 (some .boolean) : Cond) ∈ gwL := gw_at 7 (z := tables_1_7) rfl (List.mem_of_getElem? (i := 33) rfl) rfl
theorem mw_805 : (.methodLink RX12 331 yX12_isSeen : Cond) ∈ gwL := gw_at 7 (z := tables_1_7) rfl (List.mem_of_getElem? (i := 30) rfl) rfl
theorem mw_806 : (.instanceMethod yX12_isSeen : Cond) ∈ gwL := gw_at 7 (z := tables_1_7) rfl (List.mem_of_getElem? (i := 32) rfl) rfl
theorem mw_807 : (.selects RX12 yX12_isSeen yX12_isSeen : Cond) ∈ gwL := gw_at 0 (z := (k2_sels lw_privs)) rfl (List.mem_of_getElem? (i := 85) rfl) rfl
theorem mw_808 : (.code yX12_standsBy cX12_standsBy 5 (some .int) : Cond) ∈ gwL := gw_at 7 (z := tables_1_7) rfl (List.mem_of_getElem? (i := 29) rfl) rfl
theorem mw_809 : (.methodLink RX12 328 yX12_standsBy : Cond) ∈ gwL := gw_at 7 (z := tables_1_7) rfl (List.mem_of_getElem? (i := 26) rfl) rfl
theorem mw_810 : (.instanceMethod yX12_standsBy : Cond) ∈ gwL := gw_at 7 (z := tables_1_7) rfl (List.mem_of_getElem? (i := 28) rfl) rfl
theorem mw_811 : (.selects RX12 yX12_standsBy yX12_standsBy : Cond) ∈ gwL := gw_at 0 (z := (k2_sels lw_privs)) rfl (List.mem_of_getElem? (i := 84) rfl) rfl
theorem mw_812 : (.code yX12_sitsSet cX12_sitsSet 4 (some .int) : Cond) ∈ gwL := gw_at 7 (z := tables_1_7) rfl (List.mem_of_getElem? (i := 8) rfl) rfl
theorem mw_813 : (.methodLink RX12 318 yX12_sitsSet : Cond) ∈ gwL := gw_at 7 (z := tables_1_7) rfl (List.mem_of_getElem? (i := 5) rfl) rfl
theorem mw_814 : (.instanceMethod yX12_sitsSet : Cond) ∈ gwL := gw_at 7 (z := tables_1_7) rfl (List.mem_of_getElem? (i := 7) rfl) rfl
theorem mw_815 : (.selects RX12 yX12_sitsSet yX12_sitsSet : Cond) ∈ gwL := gw_at 0 (z := (k2_sels lw_privs)) rfl (List.mem_of_getElem? (i := 80) rfl) rfl
theorem mw_816 : (.fieldLink RX12 312 "SetAgainModel" "leastChairs" "I" : Cond) ∈ gwL := gw_at 5 (z := tables_1_5) rfl (List.mem_of_getElem? (i := 97) rfl) rfl
theorem mw_817 : (.code yX12_asksLosses cX12_asksLosses 5 none : Cond) ∈ gwL := gw_at 6 (z := tables_1_6) rfl (List.mem_of_getElem? (i := 173) rfl) rfl
theorem mw_818 : (.methodLink RX12 251 yX12_asksLosses : Cond) ∈ gwL := gw_at 6 (z := tables_1_6) rfl (List.mem_of_getElem? (i := 170) rfl) rfl
theorem mw_819 : (.instanceMethod yX12_asksLosses : Cond) ∈ gwL := gw_at 6 (z := tables_1_6) rfl (List.mem_of_getElem? (i := 172) rfl) rfl
theorem mw_820 : (.selects RX12 yX12_asksLosses yX12_asksLosses : Cond) ∈ gwL := gw_at 0 (z := (k2_sels lw_privs)) rfl (List.mem_of_getElem? (i := 71) rfl) rfl
theorem mw_821 : (.fieldLink RX12 37 "SetAgainModel" "leastFrom" "[I" : Cond) ∈ gwL := gw_at 5 (z := tables_1_5) rfl (List.mem_of_getElem? (i := 81) rfl) rfl
theorem mw_822 : (.code yX12_isWanted cX12_isWanted 5 (some .boolean) : Cond) ∈ gwL := gw_at 6 (z := tables_1_6) rfl (List.mem_of_getElem? (i := 165) rfl) rfl
theorem mw_823 : (.methodLink RX12 244 yX12_isWanted : Cond) ∈ gwL := gw_at 6 (z := tables_1_6) rfl (List.mem_of_getElem? (i := 162) rfl) rfl
theorem mw_824 : (.instanceMethod yX12_isWanted : Cond) ∈ gwL := gw_at 6 (z := tables_1_6) rfl (List.mem_of_getElem? (i := 164) rfl) rfl
theorem mw_825 : (.selects RX12 yX12_isWanted yX12_isWanted : Cond) ∈ gwL := gw_at 0 (z := (k2_sels lw_privs)) rfl (List.mem_of_getElem? (i := 70) rfl) rfl
theorem mw_826 : (.code yX12_worstOf cX12_worstOf 7 (some .int) : Cond) ∈ gwL := gw_at 6 (z := tables_1_6) rfl (List.mem_of_getElem? (i := 149) rfl) rfl
theorem mw_827 : (.methodLink RX12 235 yX12_worstOf : Cond) ∈ gwL := gw_at 6 (z := tables_1_6) rfl (List.mem_of_getElem? (i := 146) rfl) rfl
theorem mw_828 : (.instanceMethod yX12_worstOf : Cond) ∈ gwL := gw_at 6 (z := tables_1_6) rfl (List.mem_of_getElem? (i := 148) rfl) rfl
theorem mw_829 : (.selects RX12 yX12_worstOf yX12_worstOf : Cond) ∈ gwL := gw_at 0 (z := (k2_sels lw_privs)) rfl (List.mem_of_getElem? (i := 67) rfl) rfl
theorem mw_830 : (.fieldLink RX12 28 "SetAgainModel" "text" "[I" : Cond) ∈ gwL := gw_at 5 (z := tables_1_5) rfl (List.mem_of_getElem? (i := 72) rfl) rfl
theorem mw_831 : (.code yX12_isIn cX12_isIn 2 (some .boolean) : Cond) ∈ gwL := gw_at 6 (z := tables_1_6) rfl (List.mem_of_getElem? (i := 216) rfl) rfl
theorem mw_832 : (.methodLink RX12 278 yX12_isIn : Cond) ∈ gwL := gw_at 6 (z := tables_1_6) rfl (List.mem_of_getElem? (i := 214) rfl) rfl
theorem mw_833 : (.static yX12_isIn : Cond) ∈ gwL := gw_at 6 (z := tables_1_6) rfl (List.mem_of_getElem? (i := 215) rfl) rfl
theorem mw_834 : (.fieldLink RX12 53 "SetAgainModel" "chairOf" "[I" : Cond) ∈ gwL := gw_at 5 (z := tables_1_5) rfl (List.mem_of_getElem? (i := 95) rfl) rfl
theorem mw_835 : (.code yX12_priceOf cX12_priceOf 2 (some .int) : Cond) ∈ gwL := gw_at 6 (z := tables_1_6) rfl (List.mem_of_getElem? (i := 213) rfl) rfl
theorem mw_836 : (.methodLink RX12 266 yX12_priceOf : Cond) ∈ gwL := gw_at 6 (z := tables_1_6) rfl (List.mem_of_getElem? (i := 210) rfl) rfl
theorem mw_837 : (.instanceMethod yX12_priceOf : Cond) ∈ gwL := gw_at 6 (z := tables_1_6) rfl (List.mem_of_getElem? (i := 212) rfl) rfl
theorem mw_838 : (.selects RX12 yX12_priceOf yX12_priceOf : Cond) ∈ gwL := gw_at 0 (z := (k2_sels lw_privs)) rfl (List.mem_of_getElem? (i := 79) rfl) rfl
theorem mw_839 : (.code yX12_byteAt cX12_byteAt 1 (some .int) : Cond) ∈ gwL := gw_at 6 (z := tables_1_6) rfl (List.mem_of_getElem? (i := 90) rfl) rfl
theorem mw_840 : (.methodLink RX12 171 yX12_byteAt : Cond) ∈ gwL := gw_at 6 (z := tables_1_6) rfl (List.mem_of_getElem? (i := 87) rfl) rfl
theorem mw_841 : (.instanceMethod yX12_byteAt : Cond) ∈ gwL := gw_at 6 (z := tables_1_6) rfl (List.mem_of_getElem? (i := 89) rfl) rfl
theorem mw_842 : (.selects RX12 yX12_byteAt yX12_byteAt : Cond) ∈ gwL := gw_at 0 (z := (k2_sels lw_privs)) rfl (List.mem_of_getElem? (i := 57) rfl) rfl
theorem mw_843 : (.code yX12_turnsTo cX12_turnsTo 6 none : Cond) ∈ gwL := gw_at 6 (z := tables_1_6) rfl (List.mem_of_getElem? (i := 209) rfl) rfl
theorem mw_844 : (.methodLink RX12 285 yX12_turnsTo : Cond) ∈ gwL := gw_at 6 (z := tables_1_6) rfl (List.mem_of_getElem? (i := 206) rfl) rfl
theorem mw_845 : (.instanceMethod yX12_turnsTo : Cond) ∈ gwL := gw_at 6 (z := tables_1_6) rfl (List.mem_of_getElem? (i := 208) rfl) rfl
theorem mw_846 : (.selects RX12 yX12_turnsTo yX12_turnsTo : Cond) ∈ gwL := gw_at 0 (z := (k2_sels lw_privs)) rfl (List.mem_of_getElem? (i := 78) rfl) rfl
theorem mw_847 : (.code yX12_product cX12_product 4 (some .int) : Cond) ∈ gwL := gw_at 6 (z := tables_1_6) rfl (List.mem_of_getElem? (i := 82) rfl) rfl
theorem mw_848 : (.methodLink RX12 187 yX12_product : Cond) ∈ gwL := gw_at 6 (z := tables_1_6) rfl (List.mem_of_getElem? (i := 79) rfl) rfl
theorem mw_849 : (.instanceMethod yX12_product : Cond) ∈ gwL := gw_at 6 (z := tables_1_6) rfl (List.mem_of_getElem? (i := 81) rfl) rfl
theorem mw_850 : (.selects RX12 yX12_product yX12_product : Cond) ∈ gwL := gw_at 0 (z := (k2_sels lw_privs)) rfl (List.mem_of_getElem? (i := 55) rfl) rfl
theorem mw_851 : (.code yX12_sums cX12_sums 4 (some .int) : Cond) ∈ gwL := gw_at 6 (z := tables_1_6) rfl (List.mem_of_getElem? (i := 78) rfl) rfl
theorem mw_852 : (.methodLink RX12 184 yX12_sums : Cond) ∈ gwL := gw_at 6 (z := tables_1_6) rfl (List.mem_of_getElem? (i := 75) rfl) rfl
theorem mw_853 : (.instanceMethod yX12_sums : Cond) ∈ gwL := gw_at 6 (z := tables_1_6) rfl (List.mem_of_getElem? (i := 77) rfl) rfl
theorem mw_854 : (.selects RX12 yX12_sums yX12_sums : Cond) ∈ gwL := gw_at 0 (z := (k2_sels lw_privs)) rfl (List.mem_of_getElem? (i := 54) rfl) rfl
theorem mw_855 : (.code yX12_compared cX12_compared 4 (some .int) : Cond) ∈ gwL := gw_at 6 (z := tables_1_6) rfl (List.mem_of_getElem? (i := 74) rfl) rfl
theorem mw_856 : (.methodLink RX12 181 yX12_compared : Cond) ∈ gwL := gw_at 6 (z := tables_1_6) rfl (List.mem_of_getElem? (i := 71) rfl) rfl
theorem mw_857 : (.instanceMethod yX12_compared : Cond) ∈ gwL := gw_at 6 (z := tables_1_6) rfl (List.mem_of_getElem? (i := 73) rfl) rfl
theorem mw_858 : (.selects RX12 yX12_compared yX12_compared : Cond) ∈ gwL := gw_at 0 (z := (k2_sels lw_privs)) rfl (List.mem_of_getElem? (i := 53) rfl) rfl
theorem mw_859 : (.code yX12_chairsOn cX12_chairsOn 7 none : Cond) ∈ gwL := gw_at 7 (z := tables_1_7) rfl (List.mem_of_getElem? (i := 12) rfl) rfl
theorem mw_860 : (.methodLink RX12 315 yX12_chairsOn : Cond) ∈ gwL := gw_at 7 (z := tables_1_7) rfl (List.mem_of_getElem? (i := 9) rfl) rfl
theorem mw_861 : (.instanceMethod yX12_chairsOn : Cond) ∈ gwL := gw_at 7 (z := tables_1_7) rfl (List.mem_of_getElem? (i := 11) rfl) rfl
theorem mw_862 : (.selects RX12 yX12_chairsOn yX12_chairsOn : Cond) ∈ gwL := gw_at 0 (z := (k2_sels lw_privs)) rfl (List.mem_of_getElem? (i := 81) rfl) rfl
theorem mw_863 : (.fieldLink RX12 56 "SetAgainModel" "bestChair" "[I" : Cond) ∈ gwL := gw_at 5 (z := tables_1_5) rfl (List.mem_of_getElem? (i := 96) rfl) rfl
theorem mw_864 : (.code yX12_costBy cX12_costBy 5 (some .int) : Cond) ∈ gwL := gw_at 6 (z := tables_1_6) rfl (List.mem_of_getElem? (i := 177) rfl) rfl
theorem mw_865 : (.methodLink RX12 255 yX12_costBy : Cond) ∈ gwL := gw_at 6 (z := tables_1_6) rfl (List.mem_of_getElem? (i := 174) rfl) rfl
theorem mw_866 : (.instanceMethod yX12_costBy : Cond) ∈ gwL := gw_at 6 (z := tables_1_6) rfl (List.mem_of_getElem? (i := 176) rfl) rfl
theorem mw_867 : (.selects RX12 yX12_costBy yX12_costBy : Cond) ∈ gwL := gw_at 0 (z := (k2_sels lw_privs)) rfl (List.mem_of_getElem? (i := 72) rfl) rfl
theorem mw_868 : (.code yX12_nameOf cX12_nameOf 1 (some .int) : Cond) ∈ gwL := gw_at 6 (z := tables_1_6) rfl (List.mem_of_getElem? (i := 101) rfl) rfl
theorem mw_869 : (.methodLink RX12 202 yX12_nameOf : Cond) ∈ gwL := gw_at 6 (z := tables_1_6) rfl (List.mem_of_getElem? (i := 99) rfl) rfl
theorem mw_870 : (.static yX12_nameOf : Cond) ∈ gwL := gw_at 6 (z := tables_1_6) rfl (List.mem_of_getElem? (i := 100) rfl) rfl
theorem mw_871 : (.fieldLink RX12 31 "SetAgainModel" "names" "[I" : Cond) ∈ gwL := gw_at 5 (z := tables_1_5) rfl (List.mem_of_getElem? (i := 79) rfl) rfl
theorem mw_872 : (.code yX12_chairLoss cX12_chairLoss 7 (some .int) : Cond) ∈ gwL := gw_at 7 (z := tables_1_7) rfl (List.mem_of_getElem? (i := 16) rfl) rfl
theorem mw_873 : (.methodLink RX12 309 yX12_chairLoss : Cond) ∈ gwL := gw_at 7 (z := tables_1_7) rfl (List.mem_of_getElem? (i := 13) rfl) rfl
theorem mw_874 : (.instanceMethod yX12_chairLoss : Cond) ∈ gwL := gw_at 7 (z := tables_1_7) rfl (List.mem_of_getElem? (i := 15) rfl) rfl
theorem mw_875 : (.selects RX12 yX12_chairLoss yX12_chairLoss : Cond) ∈ gwL := gw_at 0 (z := (k2_sels lw_privs)) rfl (List.mem_of_getElem? (i := 82) rfl) rfl
theorem mw_876 : (.code yX12_takes cX12_takes 2 (some .boolean) : Cond) ∈ gwL := gw_at 6 (z := tables_1_6) rfl (List.mem_of_getElem? (i := 98) rfl) rfl
theorem mw_877 : (.methodLink RX12 178 yX12_takes : Cond) ∈ gwL := gw_at 6 (z := tables_1_6) rfl (List.mem_of_getElem? (i := 95) rfl) rfl
theorem mw_878 : (.instanceMethod yX12_takes : Cond) ∈ gwL := gw_at 6 (z := tables_1_6) rfl (List.mem_of_getElem? (i := 97) rfl) rfl
theorem mw_879 : (.selects RX12 yX12_takes yX12_takes : Cond) ∈ gwL := gw_at 0 (z := (k2_sels lw_privs)) rfl (List.mem_of_getElem? (i := 59) rfl) rfl
theorem mw_880 : (.code yX12_both cX12_both 3 (some .int) : Cond) ∈ gwL := gw_at 6 (z := tables_1_6) rfl (List.mem_of_getElem? (i := 70) rfl) rfl
theorem mw_881 : (.methodLink RX12 175 yX12_both : Cond) ∈ gwL := gw_at 6 (z := tables_1_6) rfl (List.mem_of_getElem? (i := 67) rfl) rfl
theorem mw_882 : (.instanceMethod yX12_both : Cond) ∈ gwL := gw_at 6 (z := tables_1_6) rfl (List.mem_of_getElem? (i := 69) rfl) rfl
theorem mw_883 : (.selects RX12 yX12_both yX12_both : Cond) ∈ gwL := gw_at 0 (z := (k2_sels lw_privs)) rfl (List.mem_of_getElem? (i := 52) rfl) rfl
theorem mw_884 : (.code yX12_tellsAs cX12_tellsAs 4 (some .int) : Cond) ∈ gwL := gw_at 7 (z := tables_1_7) rfl (List.mem_of_getElem? (i := 101) rfl) rfl
theorem mw_885 : (.methodLink RX12 379 yX12_tellsAs : Cond) ∈ gwL := gw_at 7 (z := tables_1_7) rfl (List.mem_of_getElem? (i := 98) rfl) rfl
theorem mw_886 : (.instanceMethod yX12_tellsAs : Cond) ∈ gwL := gw_at 7 (z := tables_1_7) rfl (List.mem_of_getElem? (i := 100) rfl) rfl
theorem mw_887 : (.selects RX12 yX12_tellsAs yX12_tellsAs : Cond) ∈ gwL := gw_at 0 (z := (k2_sels lw_privs)) rfl (List.mem_of_getElem? (i := 91) rfl) rfl
theorem mw_888 : (.code yX12_wrong cX12_wrong 1 (some .int) : Cond) ∈ gwL := gw_at 6 (z := tables_1_6) rfl (List.mem_of_getElem? (i := 94) rfl) rfl
theorem mw_889 : (.methodLink RX12 196 yX12_wrong : Cond) ∈ gwL := gw_at 6 (z := tables_1_6) rfl (List.mem_of_getElem? (i := 91) rfl) rfl
theorem mw_890 : (.instanceMethod yX12_wrong : Cond) ∈ gwL := gw_at 6 (z := tables_1_6) rfl (List.mem_of_getElem? (i := 93) rfl) rfl
theorem mw_891 : (.selects RX12 yX12_wrong yX12_wrong : Cond) ∈ gwL := gw_at 0 (z := (k2_sels lw_privs)) rfl (List.mem_of_getElem? (i := 58) rfl) rfl
theorem mw_892 : (.code yX12_either cX12_either 3 (some .int) : Cond) ∈ gwL := gw_at 6 (z := tables_1_6) rfl (List.mem_of_getElem? (i := 66) rfl) rfl
theorem mw_893 : (.methodLink RX12 199 yX12_either : Cond) ∈ gwL := gw_at 6 (z := tables_1_6) rfl (List.mem_of_getElem? (i := 63) rfl) rfl
theorem mw_894 : (.instanceMethod yX12_either : Cond) ∈ gwL := gw_at 6 (z := tables_1_6) rfl (List.mem_of_getElem? (i := 65) rfl) rfl
theorem mw_895 : (.selects RX12 yX12_either yX12_either : Cond) ∈ gwL := gw_at 0 (z := (k2_sels lw_privs)) rfl (List.mem_of_getElem? (i := 51) rfl) rfl
theorem mw_896 : (.code yX12_workOut cX12_workOut 8 (some .int) : Cond) ∈ gwL := gw_at 6 (z := tables_1_6) rfl (List.mem_of_getElem? (i := 62) rfl) rfl
theorem mw_897 : (.methodLink RX12 205 yX12_workOut : Cond) ∈ gwL := gw_at 6 (z := tables_1_6) rfl (List.mem_of_getElem? (i := 59) rfl) rfl
theorem mw_898 : (.instanceMethod yX12_workOut : Cond) ∈ gwL := gw_at 6 (z := tables_1_6) rfl (List.mem_of_getElem? (i := 61) rfl) rfl
theorem mw_899 : (.selects RX12 yX12_workOut yX12_workOut : Cond) ∈ gwL := gw_at 0 (z := (k2_sels lw_privs)) rfl (List.mem_of_getElem? (i := 50) rfl) rfl
abbrev gwJ6_bitCount_0f7a4 : List Cond := Cond.code yJ6_bitCount_0f7a4 cJ6_bitCount_0f7a4 1 (some .int) :: gwL
abbrev gwX0_becomes : List Cond := Cond.code yX0_becomes cX0_becomes 3 none :: gwL
abbrev gwX0_comes : List Cond := Cond.code yX0_comes cX0_comes 6 (some .int) :: gwL
abbrev gwX0_fetch : List Cond := Cond.code yX0_fetch cX0_fetch 1 (some .int) :: gwL
abbrev gwX0_forget : List Cond := Cond.code yX0_forget cX0_forget 4 none :: gwL
abbrev gwX0_forgetAll : List Cond := Cond.code yX0_forgetAll cX0_forgetAll 2 none :: gwL
abbrev gwX0_has : List Cond := Cond.code yX0_has cX0_has 2 (some .boolean) :: gwL
abbrev gwX0_lossAt : List Cond := Cond.code yX0_lossAt cX0_lossAt 9 (some .int) :: gwL
abbrev gwX0_numberOf : List Cond := Cond.code yX0_numberOf cX0_numberOf 3 (some .int) :: gwL
abbrev gwX0_placeOf : List Cond := Cond.code yX0_placeOf cX0_placeOf 3 (some .int) :: gwL
abbrev gwX0_priceOf : List Cond := Cond.code yX0_priceOf cX0_priceOf 2 (some .int) :: gwL
abbrev gwX0_slipped : List Cond := Cond.code yX0_slipped cX0_slipped 3 (some .int) :: gwL
abbrev gwX0_turned : List Cond := Cond.code yX0_turned cX0_turned 6 (some .int) :: gwL
abbrev gwX10_reads : List Cond := Cond.code yX10_reads cX10_reads 5 none :: gwL
abbrev gwX11_act : List Cond := Cond.code yX11_act cX11_act 4 (some .int) :: gwL
abbrev gwX11_back : List Cond := Cond.code yX11_back cX11_back 1 (some .int) :: gwL
abbrev gwX11_best : List Cond := Cond.code yX11_best cX11_best 5 (some .int) :: gwL
abbrev gwX11_body : List Cond := Cond.code yX11_body cX11_body 2 (some .int) :: gwL
abbrev gwX11_chairs : List Cond := Cond.code yX11_chairs cX11_chairs 6 (some .int) :: gwL
abbrev gwX11_comesFrom : List Cond := Cond.code yX11_comesFrom cX11_comesFrom 6 (some .boolean) :: gwL
abbrev gwX11_count : List Cond := Cond.code yX11_count cX11_count 2 (some .int) :: gwL
abbrev gwX11_drawn : List Cond := Cond.code yX11_drawn cX11_drawn 7 (some .int) :: gwL
abbrev gwX11_element : List Cond := Cond.code yX11_element cX11_element 3 (some .long) :: gwL
abbrev gwX11_feed : List Cond := Cond.code yX11_feed cX11_feed 2 (some .int) :: gwL
abbrev gwX11_firstUnlike : List Cond := Cond.code yX11_firstUnlike cX11_firstUnlike 5 (some .int) :: gwL
abbrev gwX11_fits : List Cond := Cond.code yX11_fits cX11_fits 2 (some .boolean) :: gwL
abbrev gwX11_fromRow : List Cond := Cond.code yX11_fromRow cX11_fromRow 6 (some .int) :: gwL
abbrev gwX11_image : List Cond := Cond.code yX11_image cX11_image 1 (some .int) :: gwL
abbrev gwX11_isKind : List Cond := Cond.code yX11_isKind cX11_isKind 1 (some .boolean) :: gwL
abbrev gwX11_isPart : List Cond := Cond.code yX11_isPart cX11_isPart 1 (some .boolean) :: gwL
abbrev gwX11_isSetting : List Cond := Cond.code yX11_isSetting cX11_isSetting 1 (some .boolean) :: gwL
abbrev gwX11_isShelf : List Cond := Cond.code yX11_isShelf cX11_isShelf 1 (some .boolean) :: gwL
abbrev gwX11_judge : List Cond := Cond.code yX11_judge cX11_judge 7 (some .int) :: gwL
abbrev gwX11_keep : List Cond := Cond.code yX11_keep cX11_keep 3 (some .int) :: gwL
abbrev gwX11_law : List Cond := Cond.code yX11_law cX11_law 2 (some .int) :: gwL
abbrev gwX11_led : List Cond := Cond.code yX11_led cX11_led 2 (some .int) :: gwL
abbrev gwX11_loss : List Cond := Cond.code yX11_loss cX11_loss 4 (some .int) :: gwL
abbrev gwX11_marked : List Cond := Cond.code yX11_marked cX11_marked 3 (some .int) :: gwL
abbrev gwX11_memories : List Cond := Cond.code yX11_memories cX11_memories 5 (some .int) :: gwL
abbrev gwX11_mend : List Cond := Cond.code yX11_mend cX11_mend 6 (some .int) :: gwL
abbrev gwX11_middle : List Cond := Cond.code yX11_middle cX11_middle 4 (some .int) :: gwL
abbrev gwX11_never : List Cond := Cond.code yX11_never cX11_never 5 (some .int) :: gwL
abbrev gwX11_night : List Cond := Cond.code yX11_night cX11_night 1 (some .int) :: gwL
abbrev gwX11_of : List Cond := Cond.code yX11_of cX11_of 4 (some .int) :: gwL
abbrev gwX11_once : List Cond := Cond.code yX11_once cX11_once 5 (some .int) :: gwL
abbrev gwX11_pays : List Cond := Cond.code yX11_pays cX11_pays 5 (some .int) :: gwL
abbrev gwX11_put : List Cond := Cond.code yX11_put cX11_put 6 (some .int) :: gwL
abbrev gwX11_readWeek : List Cond := Cond.code yX11_readWeek cX11_readWeek 3 (some .int) :: gwL
abbrev gwX11_redo : List Cond := Cond.code yX11_redo cX11_redo 1 (some .int) :: gwL
abbrev gwX11_refusalAt : List Cond := Cond.code yX11_refusalAt cX11_refusalAt 4 (some .int) :: gwL
abbrev gwX11_refusalOf : List Cond := Cond.code yX11_refusalOf cX11_refusalOf 2 (some .int) :: gwL
abbrev gwX11_row : List Cond := Cond.code yX11_row cX11_row 4 (some .int) :: gwL
abbrev gwX11_set : List Cond := Cond.code yX11_set cX11_set 3 (some .int) :: gwL
abbrev gwX11_shift : List Cond := Cond.code yX11_shift cX11_shift 8 (some .int) :: gwL
abbrev gwX11_shifts : List Cond := Cond.code yX11_shifts cX11_shifts 5 (some .int) :: gwL
abbrev gwX11_sit : List Cond := Cond.code yX11_sit cX11_sit 2 (some .int) :: gwL
abbrev gwX11_sitter : List Cond := Cond.code yX11_sitter cX11_sitter 3 (some .int) :: gwL
abbrev gwX11_sitters : List Cond := Cond.code yX11_sitters cX11_sitters 5 (some .int) :: gwL
abbrev gwX11_stands : List Cond := Cond.code yX11_stands cX11_stands 5 (some .int) :: gwL
abbrev gwX11_taken : List Cond := Cond.code yX11_taken cX11_taken 4 (some .int) :: gwL
abbrev gwX11_trace : List Cond := Cond.code yX11_trace cX11_trace 2 (some .int) :: gwL
abbrev gwX11_undo : List Cond := Cond.code yX11_undo cX11_undo 1 (some .int) :: gwL
abbrev gwX11_week : List Cond := Cond.code yX11_week cX11_week 4 (some .int) :: gwL
abbrev gwX11_who : List Cond := Cond.code yX11_who cX11_who 5 (some .int) :: gwL
abbrev gwX11_wilful : List Cond := Cond.code yX11_wilful cX11_wilful 4 (some .int) :: gwL
abbrev gwX12_above : List Cond := Cond.code yX12_above cX12_above 1 (some .int) :: gwL
abbrev gwX12_act : List Cond := Cond.code yX12_act cX12_act 4 (some .int) :: gwL
abbrev gwX12_adds : List Cond := Cond.code yX12_adds cX12_adds 6 none :: gwL
abbrev gwX12_anySits : List Cond := Cond.code yX12_anySits cX12_anySits 3 (some .boolean) :: gwL
abbrev gwX12_asSort : List Cond := Cond.code yX12_asSort cX12_asSort 3 (some .long) :: gwL
abbrev gwX12_asksLosses : List Cond := Cond.code yX12_asksLosses cX12_asksLosses 5 none :: gwL
abbrev gwX12_back : List Cond := Cond.code yX12_back cX12_back 2 (some .int) :: gwL
abbrev gwX12_becomes : List Cond := Cond.code yX12_becomes cX12_becomes 5 (some .int) :: gwL
abbrev gwX12_begins : List Cond := Cond.code yX12_begins cX12_begins 2 none :: gwL
abbrev gwX12_beginsWeek : List Cond := Cond.code yX12_beginsWeek cX12_beginsWeek 2 none :: gwL
abbrev gwX12_best : List Cond := Cond.code yX12_best cX12_best 8 (some .int) :: gwL
abbrev gwX12_bitsOf : List Cond := Cond.code yX12_bitsOf cX12_bitsOf 3 (some .int) :: gwL
abbrev gwX12_body : List Cond := Cond.code yX12_body cX12_body 2 (some .int) :: gwL
abbrev gwX12_both : List Cond := Cond.code yX12_both cX12_both 3 (some .int) :: gwL
abbrev gwX12_byteAt : List Cond := Cond.code yX12_byteAt cX12_byteAt 1 (some .int) :: gwL
abbrev gwX12_bytesIs : List Cond := Cond.code yX12_bytesIs cX12_bytesIs 2 (some .int) :: gwL
abbrev gwX12_chairLoss : List Cond := Cond.code yX12_chairLoss cX12_chairLoss 7 (some .int) :: gwL
abbrev gwX12_chairs : List Cond := Cond.code yX12_chairs cX12_chairs 7 (some .int) :: gwL
abbrev gwX12_chairsOn : List Cond := Cond.code yX12_chairsOn cX12_chairsOn 7 none :: gwL
abbrev gwX12_comes : List Cond := Cond.code yX12_comes cX12_comes 4 none :: gwL
abbrev gwX12_compared : List Cond := Cond.code yX12_compared cX12_compared 4 (some .int) :: gwL
abbrev gwX12_costBy : List Cond := Cond.code yX12_costBy cX12_costBy 5 (some .int) :: gwL
abbrev gwX12_count : List Cond := Cond.code yX12_count cX12_count 2 (some .int) :: gwL
abbrev gwX12_drawn : List Cond := Cond.code yX12_drawn cX12_drawn 11 (some .int) :: gwL
abbrev gwX12_either : List Cond := Cond.code yX12_either cX12_either 3 (some .int) :: gwL
abbrev gwX12_element : List Cond := Cond.code yX12_element cX12_element 3 (some .long) :: gwL
abbrev gwX12_feed : List Cond := Cond.code yX12_feed cX12_feed 2 (some .int) :: gwL
abbrev gwX12_image : List Cond := Cond.code yX12_image cX12_image 2 (some .int) :: gwL
abbrev gwX12_isBody : List Cond := Cond.code yX12_isBody cX12_isBody 2 (some .boolean) :: gwL
abbrev gwX12_isIn : List Cond := Cond.code yX12_isIn cX12_isIn 2 (some .boolean) :: gwL
abbrev gwX12_isPart : List Cond := Cond.code yX12_isPart cX12_isPart 1 (some .boolean) :: gwL
abbrev gwX12_isSeen : List Cond := Cond.code yX12_isSeen cX12_isSeen 6 (some .boolean) :: gwL
abbrev gwX12_isSetting : List Cond := Cond.code yX12_isSetting cX12_isSetting 2 (some .boolean) :: gwL
abbrev gwX12_isShelf : List Cond := Cond.code yX12_isShelf cX12_isShelf 1 (some .boolean) :: gwL
abbrev gwX12_isSitter : List Cond := Cond.code yX12_isSitter cX12_isSitter 3 (some .boolean) :: gwL
abbrev gwX12_isWanted : List Cond := Cond.code yX12_isWanted cX12_isWanted 5 (some .boolean) :: gwL
abbrev gwX12_judge : List Cond := Cond.code yX12_judge cX12_judge 4 (some .int) :: gwL
abbrev gwX12_keep : List Cond := Cond.code yX12_keep cX12_keep 3 (some .int) :: gwL
abbrev gwX12_kindOf : List Cond := Cond.code yX12_kindOf cX12_kindOf 2 (some .int) :: gwL
abbrev gwX12_law : List Cond := Cond.code yX12_law cX12_law 4 (some .int) :: gwL
abbrev gwX12_led : List Cond := Cond.code yX12_led cX12_led 2 (some .int) :: gwL
abbrev gwX12_loss : List Cond := Cond.code yX12_loss cX12_loss 4 (some .int) :: gwL
abbrev gwX12_lossOf : List Cond := Cond.code yX12_lossOf cX12_lossOf 7 (some .int) :: gwL
abbrev gwX12_marked : List Cond := Cond.code yX12_marked cX12_marked 4 (some .int) :: gwL
abbrev gwX12_may1 : List Cond := Cond.code yX12_may1 cX12_may1 2 (some .boolean) :: gwL
abbrev gwX12_memories : List Cond := Cond.code yX12_memories cX12_memories 8 (some .int) :: gwL
abbrev gwX12_mend : List Cond := Cond.code yX12_mend cX12_mend 5 (some .int) :: gwL
abbrev gwX12_middle : List Cond := Cond.code yX12_middle cX12_middle 5 (some .int) :: gwL
abbrev gwX12_mostOf : List Cond := Cond.code yX12_mostOf cX12_mostOf 1 (some .int) :: gwL
abbrev gwX12_nameOf : List Cond := Cond.code yX12_nameOf cX12_nameOf 1 (some .int) :: gwL
abbrev gwX12_nearBy : List Cond := Cond.code yX12_nearBy cX12_nearBy 2 (some .int) :: gwL
abbrev gwX12_never : List Cond := Cond.code yX12_never cX12_never 4 (some .int) :: gwL
abbrev gwX12_neverOf : List Cond := Cond.code yX12_neverOf cX12_neverOf 6 (some .int) :: gwL
abbrev gwX12_night : List Cond := Cond.code yX12_night cX12_night 4 (some .int) :: gwL
abbrev gwX12_numberOf : List Cond := Cond.code yX12_numberOf cX12_numberOf 3 (some .int) :: gwL
abbrev gwX12_of : List Cond := Cond.code yX12_of cX12_of 4 (some .int) :: gwL
abbrev gwX12_once : List Cond := Cond.code yX12_once cX12_once 13 (some .int) :: gwL
abbrev gwX12_one : List Cond := Cond.code yX12_one cX12_one 5 (some .int) :: gwL
abbrev gwX12_pays : List Cond := Cond.code yX12_pays cX12_pays 7 (some .int) :: gwL
abbrev gwX12_placeOf : List Cond := Cond.code yX12_placeOf cX12_placeOf 3 (some .int) :: gwL
abbrev gwX12_priceOf : List Cond := Cond.code yX12_priceOf cX12_priceOf 2 (some .int) :: gwL
abbrev gwX12_product : List Cond := Cond.code yX12_product cX12_product 4 (some .int) :: gwL
abbrev gwX12_put : List Cond := Cond.code yX12_put cX12_put 6 (some .int) :: gwL
abbrev gwX12_redo : List Cond := Cond.code yX12_redo cX12_redo 1 (some .int) :: gwL
abbrev gwX12_refusal : List Cond := Cond.code yX12_refusal cX12_refusal 3 (some .int) :: gwL
abbrev gwX12_row : List Cond := Cond.code yX12_row cX12_row 5 (some .int) :: gwL
abbrev gwX12_set : List Cond := Cond.code yX12_set cX12_set 4 (some .int) :: gwL
abbrev gwX12_setsAs : List Cond := Cond.code yX12_setsAs cX12_setsAs 3 (some .int) :: gwL
abbrev gwX12_shift : List Cond := Cond.code yX12_shift cX12_shift 7 (some .int) :: gwL
abbrev gwX12_shifts : List Cond := Cond.code yX12_shifts cX12_shifts 10 (some .int) :: gwL
abbrev gwX12_shiftsOf : List Cond := Cond.code yX12_shiftsOf cX12_shiftsOf 2 (some .int) :: gwL
abbrev gwX12_sit : List Cond := Cond.code yX12_sit cX12_sit 3 (some .int) :: gwL
abbrev gwX12_sitsAs : List Cond := Cond.code yX12_sitsAs cX12_sitsAs 4 (some .int) :: gwL
abbrev gwX12_sitsSet : List Cond := Cond.code yX12_sitsSet cX12_sitsSet 4 (some .int) :: gwL
abbrev gwX12_sitter : List Cond := Cond.code yX12_sitter cX12_sitter 3 (some .int) :: gwL
abbrev gwX12_sitters : List Cond := Cond.code yX12_sitters cX12_sitters 7 (some .int) :: gwL
abbrev gwX12_sizeOf : List Cond := Cond.code yX12_sizeOf cX12_sizeOf 1 (some .int) :: gwL
abbrev gwX12_slipped : List Cond := Cond.code yX12_slipped cX12_slipped 4 (some .int) :: gwL
abbrev gwX12_slipsAs : List Cond := Cond.code yX12_slipsAs cX12_slipsAs 4 (some .int) :: gwL
abbrev gwX12_stands : List Cond := Cond.code yX12_stands cX12_stands 4 (some .int) :: gwL
abbrev gwX12_standsBy : List Cond := Cond.code yX12_standsBy cX12_standsBy 5 (some .int) :: gwL
abbrev gwX12_sums : List Cond := Cond.code yX12_sums cX12_sums 4 (some .int) :: gwL
abbrev gwX12_taken : List Cond := Cond.code yX12_taken cX12_taken 4 (some .int) :: gwL
abbrev gwX12_takes : List Cond := Cond.code yX12_takes cX12_takes 2 (some .boolean) :: gwL
abbrev gwX12_tellsAs : List Cond := Cond.code yX12_tellsAs cX12_tellsAs 4 (some .int) :: gwL
abbrev gwX12_trace : List Cond := Cond.code yX12_trace cX12_trace 2 (some .int) :: gwL
abbrev gwX12_turnsTo : List Cond := Cond.code yX12_turnsTo cX12_turnsTo 6 none :: gwL
abbrev gwX12_undo : List Cond := Cond.code yX12_undo cX12_undo 1 (some .int) :: gwL
abbrev gwX12_week : List Cond := Cond.code yX12_week cX12_week 4 (some .int) :: gwL
abbrev gwX12_weekOf : List Cond := Cond.code yX12_weekOf cX12_weekOf 5 (some .int) :: gwL
abbrev gwX12_weightOf : List Cond := Cond.code yX12_weightOf cX12_weightOf 2 (some .int) :: gwL
abbrev gwX12_weightTo : List Cond := Cond.code yX12_weightTo cX12_weightTo 7 (some .int) :: gwL
abbrev gwX12_who : List Cond := Cond.code yX12_who cX12_who 10 (some .int) :: gwL
abbrev gwX12_whoSits : List Cond := Cond.code yX12_whoSits cX12_whoSits 5 (some .int) :: gwL
abbrev gwX12_wilful : List Cond := Cond.code yX12_wilful cX12_wilful 6 (some .int) :: gwL
abbrev gwX12_within : List Cond := Cond.code yX12_within cX12_within 6 (some .boolean) :: gwL
abbrev gwX12_workOut : List Cond := Cond.code yX12_workOut cX12_workOut 8 (some .int) :: gwL
abbrev gwX12_worstOf : List Cond := Cond.code yX12_worstOf cX12_worstOf 7 (some .int) :: gwL
abbrev gwX12_wrong : List Cond := Cond.code yX12_wrong cX12_wrong 1 (some .int) :: gwL
abbrev gwX1_comes : List Cond := Cond.code yX1_comes cX1_comes 4 none :: gwL
abbrev gwX1_dropOldest : List Cond := Cond.code yX1_dropOldest cX1_dropOldest 1 none :: gwL
abbrev gwX2_allSlip : List Cond := Cond.code yX2_allSlip cX2_allSlip 4 (some .int) :: gwL
abbrev gwX2_comes : List Cond := Cond.code yX2_comes cX2_comes 2 (some .int) :: gwL
abbrev gwX2_keepImage : List Cond := Cond.code yX2_keepImage cX2_keepImage 1 (some .int) :: gwL
abbrev gwX2_layBack : List Cond := Cond.code yX2_layBack cX2_layBack 1 (some .int) :: gwL
abbrev gwX2_turns : List Cond := Cond.code yX2_turns cX2_turns 4 (some .int) :: gwL
abbrev gwX3_acts : List Cond := Cond.code yX3_acts cX3_acts 4 (some .int) :: gwL
abbrev gwX3_comes : List Cond := Cond.code yX3_comes cX3_comes 2 (some .int) :: gwL
abbrev gwX3_does : List Cond := Cond.code yX3_does cX3_does 7 (some .int) :: gwL
abbrev gwX3_ownerOf : List Cond := Cond.code yX3_ownerOf cX3_ownerOf 4 (some .int) :: gwL
abbrev gwX3_runs : List Cond := Cond.code yX3_runs cX3_runs 5 (some .int) :: gwL
abbrev gwX3_takenFor : List Cond := Cond.code yX3_takenFor cX3_takenFor 5 (some .int) :: gwL
abbrev gwX4_allTurns : List Cond := Cond.code yX4_allTurns cX4_allTurns 3 (some .int) :: gwL
abbrev gwX4_begin : List Cond := Cond.code yX4_begin cX4_begin 2 none :: gwL
abbrev gwX4_bestMemories : List Cond := Cond.code yX4_bestMemories cX4_bestMemories 9 (some .int) :: gwL
abbrev gwX4_bestNear : List Cond := Cond.code yX4_bestNear cX4_bestNear 6 (some .int) :: gwL
abbrev gwX4_comes : List Cond := Cond.code yX4_comes cX4_comes 6 none :: gwL
abbrev gwX4_drawWeeks : List Cond := Cond.code yX4_drawWeeks cX4_drawWeeks 8 (some .int) :: gwL
abbrev gwX4_leaves : List Cond := Cond.code yX4_leaves cX4_leaves 2 none :: gwL
abbrev gwX4_live : List Cond := Cond.code yX4_live cX4_live 3 none :: gwL
abbrev gwX4_moreByWilful : List Cond := Cond.code yX4_moreByWilful cX4_moreByWilful 4 (some .int) :: gwL
abbrev gwX4_pass : List Cond := Cond.code yX4_pass cX4_pass 2 none :: gwL
abbrev gwX4_savedByMarks : List Cond := Cond.code yX4_savedByMarks cX4_savedByMarks 4 (some .int) :: gwL
abbrev gwX4_slip : List Cond := Cond.code yX4_slip cX4_slip 2 none :: gwL
abbrev gwX4_sparedBy : List Cond := Cond.code yX4_sparedBy cX4_sparedBy 4 (some .int) :: gwL
abbrev gwX4_standAsNow : List Cond := Cond.code yX4_standAsNow cX4_standAsNow 2 none :: gwL
abbrev gwX4_turnTo : List Cond := Cond.code yX4_turnTo cX4_turnTo 5 (some .int) :: gwL
abbrev gwX5_both : List Cond := Cond.code yX5_both cX5_both 3 none :: gwL
abbrev gwX5_compared : List Cond := Cond.code yX5_compared cX5_compared 3 none :: gwL
abbrev gwX5_either : List Cond := Cond.code yX5_either cX5_either 3 none :: gwL
abbrev gwX5_fail : List Cond := Cond.code yX5_fail cX5_fail 1 none :: gwL
abbrev gwX5_isDigit : List Cond := Cond.code yX5_isDigit cX5_isDigit 1 (some .boolean) :: gwL
abbrev gwX5_isName : List Cond := Cond.code yX5_isName cX5_isName 1 (some .boolean) :: gwL
abbrev gwX5_isRead : List Cond := Cond.code yX5_isRead cX5_isRead 1 (some .int) :: gwL
abbrev gwX5_line : List Cond := Cond.code yX5_line cX5_line 1 none :: gwL
abbrev gwX5_lines : List Cond := Cond.code yX5_lines cX5_lines 2 none :: gwL
abbrev gwX5_named : List Cond := Cond.code yX5_named cX5_named 5 (some .int) :: gwL
abbrev gwX5_next : List Cond := Cond.code yX5_next cX5_next 1 (some .int) :: gwL
abbrev gwX5_number : List Cond := Cond.code yX5_number cX5_number 3 none :: gwL
abbrev gwX5_opened : List Cond := Cond.code yX5_opened cX5_opened 3 none :: gwL
abbrev gwX5_operand : List Cond := Cond.code yX5_operand cX5_operand 3 none :: gwL
abbrev gwX5_operands : List Cond := Cond.code yX5_operands cX5_operands 1 (some .int) :: gwL
abbrev gwX5_product : List Cond := Cond.code yX5_product cX5_product 4 none :: gwL
abbrev gwX5_sum : List Cond := Cond.code yX5_sum cX5_sum 4 none :: gwL
abbrev gwX5_takes : List Cond := Cond.code yX5_takes cX5_takes 2 (some .int) :: gwL
abbrev gwX5_valueOf : List Cond := Cond.code yX5_valueOf cX5_valueOf 10 (some .int) :: gwL
abbrev gwX5_worked : List Cond := Cond.code yX5_worked cX5_worked 3 (some .int) :: gwL
abbrev gwX5_write : List Cond := Cond.code yX5_write cX5_write 2 none :: gwL
abbrev gwX6_allAhead : List Cond := Cond.code yX6_allAhead cX6_allAhead 7 (some .long) :: gwL
abbrev gwX6_allBehind : List Cond := Cond.code yX6_allBehind cX6_allBehind 7 (some .long) :: gwL
abbrev gwX6_asSeen : List Cond := Cond.code yX6_asSeen cX6_asSeen 4 (some .long) :: gwL
abbrev gwX6_behindShift : List Cond := Cond.code yX6_behindShift cX6_behindShift 3 (some .int) :: gwL
abbrev gwX6_fittingBehind : List Cond := Cond.code yX6_fittingBehind cX6_fittingBehind 5 (some .long) :: gwL
abbrev gwX6_mayHaveSat : List Cond := Cond.code yX6_mayHaveSat cX6_mayHaveSat 10 (some .int) :: gwL
abbrev gwX6_reachedAhead : List Cond := Cond.code yX6_reachedAhead cX6_reachedAhead 8 (some .long) :: gwL
abbrev gwX7_cut : List Cond := Cond.code yX7_cut cX7_cut 3 (some .long) :: gwL
abbrev gwX7_hasPlaces : List Cond := Cond.code yX7_hasPlaces cX7_hasPlaces 3 (some .boolean) :: gwL
abbrev gwX7_isRow : List Cond := Cond.code yX7_isRow cX7_isRow 1 (some .boolean) :: gwL
abbrev gwX7_takesDesk : List Cond := Cond.code yX7_takesDesk cX7_takesDesk 2 none :: gwL
abbrev gwX7_takesRow : List Cond := Cond.code yX7_takesRow cX7_takesRow 4 none :: gwL
abbrev gwX8_allLosses : List Cond := Cond.code yX8_allLosses cX8_allLosses 5 (some .int) :: gwL
abbrev gwX8_bestOf : List Cond := Cond.code yX8_bestOf cX8_bestOf 7 (some .int) :: gwL
abbrev gwX8_chairOf : List Cond := Cond.code yX8_chairOf cX8_chairOf 4 (some .int) :: gwL
abbrev gwX8_gather : List Cond := Cond.code yX8_gather cX8_gather 2 none :: gwL
abbrev gwX8_middleWant : List Cond := Cond.code yX8_middleWant cX8_middleWant 5 (some .int) :: gwL
abbrev gwX8_part : List Cond := Cond.code yX8_part cX8_part 3 none :: gwL
abbrev gwX8_parted : List Cond := Cond.code yX8_parted cX8_parted 4 (some .int) :: gwL
abbrev gwX8_sumGroups : List Cond := Cond.code yX8_sumGroups cX8_sumGroups 4 none :: gwL
abbrev gwX8_sumGroupsUpTo : List Cond := Cond.code yX8_sumGroupsUpTo cX8_sumGroupsUpTo 5 none :: gwL
abbrev gwX8_weigh : List Cond := Cond.code yX8_weigh cX8_weigh 3 none :: gwL
abbrev gwX8_weighWants : List Cond := Cond.code yX8_weighWants cX8_weighWants 7 (some .int) :: gwL
abbrev gwX8_worstLoss : List Cond := Cond.code yX8_worstLoss cX8_worstLoss 5 (some .int) :: gwL
abbrev gwX9_leastSetting : List Cond := Cond.code yX9_leastSetting cX9_leastSetting 7 (some .int) :: gwL
abbrev gwX9_oneTurning : List Cond := Cond.code yX9_oneTurning cX9_oneTurning 12 (some .int) :: gwL
abbrev gwX9_pay : List Cond := Cond.code yX9_pay cX9_pay 6 none :: gwL
abbrev gwX9_shiftByShift : List Cond := Cond.code yX9_shiftByShift cX9_shiftByShift 6 (some .int) :: gwL
abbrev gwX9_spread : List Cond := Cond.code yX9_spread cX9_spread 4 none :: gwL
abbrev gwX9_unturned : List Cond := Cond.code yX9_unturned cX9_unturned 5 (some .int) :: gwL
