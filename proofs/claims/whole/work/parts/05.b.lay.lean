/-! printed by wip/whole/gen_names.py: one theorem a pool entry -/
theorem mlG_0 : u_lay "CutSheets$Groups" mFG 0 ∈ mm_T := mm_in 161 (by decide +kernel) rfl
theorem mlG_1 : u_lay "CutSheets$Groups" mFG 1 ∈ mm_T := mm_in 163 (by decide +kernel) rfl
theorem mlG : ∀ w ∈ u_ws "CutSheets$Groups" mFG 2, w ∈ mm_T := by
  intro w hw
  obtain ⟨k, hk, rfl⟩ := List.mem_map.mp hw
  have hk := List.mem_range.mp hk
  match k, hk with
  | 0, _ => exact mlG_0
  | 1, _ => exact mlG_1
  | n + 2, h => exact absurd h (by omega)
theorem mlK_0 : u_lay "CutSheets$Look" mFK 0 ∈ mm_T := mm_in 175 (by decide +kernel) rfl
theorem mlK_1 : u_lay "CutSheets$Look" mFK 1 ∈ mm_T := mm_in 177 (by decide +kernel) rfl
theorem mlK_2 : u_lay "CutSheets$Look" mFK 2 ∈ mm_T := mm_in 179 (by decide +kernel) rfl
theorem mlK_3 : u_lay "CutSheets$Look" mFK 3 ∈ mm_T := mm_in 181 (by decide +kernel) rfl
theorem mlK_4 : u_lay "CutSheets$Look" mFK 4 ∈ mm_T := mm_in 183 (by decide +kernel) rfl
theorem mlK_5 : u_lay "CutSheets$Look" mFK 5 ∈ mm_T := mm_in 185 (by decide +kernel) rfl
theorem mlK_6 : u_lay "CutSheets$Look" mFK 6 ∈ mm_T := mm_in 187 (by decide +kernel) rfl
theorem mlK_7 : u_lay "CutSheets$Look" mFK 7 ∈ mm_T := mm_in 189 (by decide +kernel) rfl
theorem mlK_8 : u_lay "CutSheets$Look" mFK 8 ∈ mm_T := mm_in 191 (by decide +kernel) rfl
theorem mlK : ∀ w ∈ u_ws "CutSheets$Look" mFK 9, w ∈ mm_T := by
  intro w hw
  obtain ⟨k, hk, rfl⟩ := List.mem_map.mp hw
  have hk := List.mem_range.mp hk
  match k, hk with
  | 0, _ => exact mlK_0
  | 1, _ => exact mlK_1
  | 2, _ => exact mlK_2
  | 3, _ => exact mlK_3
  | 4, _ => exact mlK_4
  | 5, _ => exact mlK_5
  | 6, _ => exact mlK_6
  | 7, _ => exact mlK_7
  | 8, _ => exact mlK_8
  | n + 9, h => exact absurd h (by omega)
theorem mlR_0 : u_lay "CutSheets$Reading" mFR 0 ∈ mm_T := mm_in 134 (by decide +kernel) rfl
theorem mlR_1 : u_lay "CutSheets$Reading" mFR 1 ∈ mm_T := mm_in 136 (by decide +kernel) rfl
theorem mlR_2 : u_lay "CutSheets$Reading" mFR 2 ∈ mm_T := mm_in 138 (by decide +kernel) rfl
theorem mlR_3 : u_lay "CutSheets$Reading" mFR 3 ∈ mm_T := mm_in 140 (by decide +kernel) rfl
theorem mlR_4 : u_lay "CutSheets$Reading" mFR 4 ∈ mm_T := mm_in 142 (by decide +kernel) rfl
theorem mlR : ∀ w ∈ u_ws "CutSheets$Reading" mFR 5, w ∈ mm_T := by
  intro w hw
  obtain ⟨k, hk, rfl⟩ := List.mem_map.mp hw
  have hk := List.mem_range.mp hk
  match k, hk with
  | 0, _ => exact mlR_0
  | 1, _ => exact mlR_1
  | 2, _ => exact mlR_2
  | 3, _ => exact mlR_3
  | 4, _ => exact mlR_4
  | n + 5, h => exact absurd h (by omega)
theorem mlS_0 : u_lay "CutSheets$Sheet" mFS 0 ∈ mm_T := mm_in 109 (by decide +kernel) rfl
theorem mlS_1 : u_lay "CutSheets$Sheet" mFS 1 ∈ mm_T := mm_in 111 (by decide +kernel) rfl
theorem mlS_2 : u_lay "CutSheets$Sheet" mFS 2 ∈ mm_T := mm_in 113 (by decide +kernel) rfl
theorem mlS_3 : u_lay "CutSheets$Sheet" mFS 3 ∈ mm_T := mm_in 115 (by decide +kernel) rfl
theorem mlS_4 : u_lay "CutSheets$Sheet" mFS 4 ∈ mm_T := mm_in 117 (by decide +kernel) rfl
theorem mlS : ∀ w ∈ u_ws "CutSheets$Sheet" mFS 5, w ∈ mm_T := by
  intro w hw
  obtain ⟨k, hk, rfl⟩ := List.mem_map.mp hw
  have hk := List.mem_range.mp hk
  match k, hk with
  | 0, _ => exact mlS_0
  | 1, _ => exact mlS_1
  | 2, _ => exact mlS_2
  | 3, _ => exact mlS_3
  | 4, _ => exact mlS_4
  | n + 5, h => exact absurd h (by omega)
theorem mlC_0 : u_lay "CutSheets" mFC 0 ∈ mm_T := mm_in 203 (by decide +kernel) rfl
theorem mlC_1 : u_lay "CutSheets" mFC 1 ∈ mm_T := mm_in 205 (by decide +kernel) rfl
theorem mlC_2 : u_lay "CutSheets" mFC 2 ∈ mm_T := mm_in 207 (by decide +kernel) rfl
theorem mlC_3 : u_lay "CutSheets" mFC 3 ∈ mm_T := mm_in 209 (by decide +kernel) rfl
theorem mlC_4 : u_lay "CutSheets" mFC 4 ∈ mm_T := mm_in 211 (by decide +kernel) rfl
theorem mlC_5 : u_lay "CutSheets" mFC 5 ∈ mm_T := mm_in 213 (by decide +kernel) rfl
theorem mlC_6 : u_lay "CutSheets" mFC 6 ∈ mm_T := mm_in 215 (by decide +kernel) rfl
theorem mlC_7 : u_lay "CutSheets" mFC 7 ∈ mm_T := mm_in 217 (by decide +kernel) rfl
theorem mlC_8 : u_lay "CutSheets" mFC 8 ∈ mm_T := mm_in 219 (by decide +kernel) rfl
theorem mlC : ∀ w ∈ u_ws "CutSheets" mFC 9, w ∈ mm_T := by
  intro w hw
  obtain ⟨k, hk, rfl⟩ := List.mem_map.mp hw
  have hk := List.mem_range.mp hk
  match k, hk with
  | 0, _ => exact mlC_0
  | 1, _ => exact mlC_1
  | 2, _ => exact mlC_2
  | 3, _ => exact mlC_3
  | 4, _ => exact mlC_4
  | 5, _ => exact mlC_5
  | 6, _ => exact mlC_6
  | 7, _ => exact mlC_7
  | 8, _ => exact mlC_8
  | n + 9, h => exact absurd h (by omega)
theorem mlM_0 : u_lay "CutSheetsModel" mFM 0 ∈ mm_T := mm_in 740 (by decide +kernel) rfl
theorem mlM_1 : u_lay "CutSheetsModel" mFM 1 ∈ mm_T := mm_in 742 (by decide +kernel) rfl
theorem mlM_2 : u_lay "CutSheetsModel" mFM 2 ∈ mm_T := mm_in 744 (by decide +kernel) rfl
theorem mlM_3 : u_lay "CutSheetsModel" mFM 3 ∈ mm_T := mm_in 746 (by decide +kernel) rfl
theorem mlM_4 : u_lay "CutSheetsModel" mFM 4 ∈ mm_T := mm_in 748 (by decide +kernel) rfl
theorem mlM_5 : u_lay "CutSheetsModel" mFM 5 ∈ mm_T := mm_in 750 (by decide +kernel) rfl
theorem mlM_6 : u_lay "CutSheetsModel" mFM 6 ∈ mm_T := mm_in 752 (by decide +kernel) rfl
theorem mlM_7 : u_lay "CutSheetsModel" mFM 7 ∈ mm_T := mm_in 754 (by decide +kernel) rfl
theorem mlM_8 : u_lay "CutSheetsModel" mFM 8 ∈ mm_T := mm_in 756 (by decide +kernel) rfl
theorem mlM_9 : u_lay "CutSheetsModel" mFM 9 ∈ mm_T := mm_in 758 (by decide +kernel) rfl
theorem mlM_10 : u_lay "CutSheetsModel" mFM 10 ∈ mm_T := mm_in 760 (by decide +kernel) rfl
theorem mlM_11 : u_lay "CutSheetsModel" mFM 11 ∈ mm_T := mm_in 762 (by decide +kernel) rfl
theorem mlM_12 : u_lay "CutSheetsModel" mFM 12 ∈ mm_T := mm_in 764 (by decide +kernel) rfl
theorem mlM_13 : u_lay "CutSheetsModel" mFM 13 ∈ mm_T := mm_in 766 (by decide +kernel) rfl
theorem mlM_14 : u_lay "CutSheetsModel" mFM 14 ∈ mm_T := mm_in 768 (by decide +kernel) rfl
theorem mlM_15 : u_lay "CutSheetsModel" mFM 15 ∈ mm_T := mm_in 770 (by decide +kernel) rfl
theorem mlM_16 : u_lay "CutSheetsModel" mFM 16 ∈ mm_T := mm_in 772 (by decide +kernel) rfl
theorem mlM_17 : u_lay "CutSheetsModel" mFM 17 ∈ mm_T := mm_in 774 (by decide +kernel) rfl
theorem mlM_18 : u_lay "CutSheetsModel" mFM 18 ∈ mm_T := mm_in 776 (by decide +kernel) rfl
theorem mlM_19 : u_lay "CutSheetsModel" mFM 19 ∈ mm_T := mm_in 778 (by decide +kernel) rfl
theorem mlM_20 : u_lay "CutSheetsModel" mFM 20 ∈ mm_T := mm_in 780 (by decide +kernel) rfl
theorem mlM : ∀ w ∈ u_ws "CutSheetsModel" mFM 21, w ∈ mm_T := by
  intro w hw
  obtain ⟨k, hk, rfl⟩ := List.mem_map.mp hw
  have hk := List.mem_range.mp hk
  match k, hk with
  | 0, _ => exact mlM_0
  | 1, _ => exact mlM_1
  | 2, _ => exact mlM_2
  | 3, _ => exact mlM_3
  | 4, _ => exact mlM_4
  | 5, _ => exact mlM_5
  | 6, _ => exact mlM_6
  | 7, _ => exact mlM_7
  | 8, _ => exact mlM_8
  | 9, _ => exact mlM_9
  | 10, _ => exact mlM_10
  | 11, _ => exact mlM_11
  | 12, _ => exact mlM_12
  | 13, _ => exact mlM_13
  | 14, _ => exact mlM_14
  | 15, _ => exact mlM_15
  | 16, _ => exact mlM_16
  | 17, _ => exact mlM_17
  | 18, _ => exact mlM_18
  | 19, _ => exact mlM_19
  | 20, _ => exact mlM_20
  | n + 21, h => exact absurd h (by omega)
theorem mm_lay (ci : Nat) (q : vw_C) (h : mm_cl[ci]? = some q) : ∀ w ∈ u_ws q.1 q.2.1 q.2.2, w ∈ mm_T := by
  match ci, h with
  | 0, h => cases h; exact mlG
  | 1, h => cases h; exact mlK
  | 2, h => cases h; exact mlR
  | 3, h => cases h; exact mlS
  | 4, h => cases h; exact mlC
  | 5, h => cases h; exact mlM
  | n + 6, h => exact absurd h (by simp [mm_cl])
