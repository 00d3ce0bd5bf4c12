/-! all sites stand -/
theorem zcls_ok : zcls zTs := by
  intro ci hci
  have hin : ∀ (ps : List Nat) (ws : List Jvm.Cond), ws.map some = ps.map (fun i => lw_tbl[i]?) → ws.all goodWord = true → ∀ w ∈ ws, w ∈ zTs := by
    intro ps ws h1 h2 w hw
    refine List.mem_filter.mpr ⟨?_, List.all_eq_true.mp h2 w hw⟩
    have : some w ∈ ps.map (fun i => lw_tbl[i]?) := by rw [← h1]; exact List.mem_map.mpr ⟨w, hw, rfl⟩
    obtain ⟨i, -, hi⟩ := List.mem_map.mp this
    exact List.mem_of_getElem? hi
  match ci, hci with
  | 0, _ => exact ⟨hin [342, 344] _ (by decide +kernel) (by decide +kernel), tyX0_ok, nmX0, zIn 332 (by decide +kernel) rfl, zIn 101 (by decide +kernel) rfl, by decide +kernel⟩
  | 1, _ => exact ⟨hin [354] _ (by decide +kernel) (by decide +kernel), tyX1_ok, nmX1, zIn 348 (by decide +kernel) rfl, zIn 102 (by decide +kernel) rfl, by decide +kernel⟩
  | 2, _ => exact ⟨hin [371, 373, 375, 377, 379, 381, 383, 385] _ (by decide +kernel) (by decide +kernel), tyX2_ok, nmX2, zIn 358 (by decide +kernel) rfl, zIn 103 (by decide +kernel) rfl, by decide +kernel⟩
  | 3, _ => exact ⟨hin [182, 184, 186, 188, 190, 192, 194, 196, 198, 200, 202, 204, 206, 208, 210, 212, 214, 216] _ (by decide +kernel) (by decide +kernel), tyX3_ok, nmX3, zIn 139 (by decide +kernel) rfl, zIn 94 (by decide +kernel) rfl, by decide +kernel⟩
  | 4, _ => exact ⟨hin [151] _ (by decide +kernel) (by decide +kernel), tyX4_ok, nmX4, zIn 145 (by decide +kernel) rfl, zIn 95 (by decide +kernel) rfl, by decide +kernel⟩
  | 5, _ => exact ⟨hin [399, 401, 403] _ (by decide +kernel) (by decide +kernel), tyX5_ok, nmX5, zIn 391 (by decide +kernel) rfl, zIn 104 (by decide +kernel) rfl, by decide +kernel⟩
  | 6, _ => exact ⟨hin [302, 304, 306, 308, 310, 312, 314, 316, 318, 320, 322, 324, 326, 328] _ (by decide +kernel) (by decide +kernel), tyX6_ok, nmX6, zIn 277 (by decide +kernel) rfl, zIn 100 (by decide +kernel) rfl, by decide +kernel⟩
  | 7, _ => exact ⟨hin [126, 128, 130, 132, 134] _ (by decide +kernel) (by decide +kernel), tyX7_ok, nmX7, zIn 116 (by decide +kernel) rfl, zIn 93 (by decide +kernel) rfl, by decide +kernel⟩
  | 8, _ => exact ⟨hin [254, 256, 258, 260, 262, 264, 266, 268, 270, 272] _ (by decide +kernel) (by decide +kernel), tyX8_ok, nmX8, zIn 223 (by decide +kernel) rfl, zIn 96 (by decide +kernel) rfl, by decide +kernel⟩
  | 9, _ => exact ⟨hin [418, 420, 422, 424, 426, 428, 430, 432, 434, 436, 438, 440] _ (by decide +kernel) (by decide +kernel), tyX9_ok, nmX9, zIn 108 (by decide +kernel) rfl, zIn 92 (by decide +kernel) rfl, by decide +kernel⟩
  | 10, _ => exact ⟨hin [1176, 1178, 1180, 1182, 1184, 1186, 1188, 1190, 1192, 1194, 1196, 1198, 1200, 1202, 1204, 1206, 1208, 1210, 1212, 1214, 1216, 1218, 1220, 1222, 1224, 1226, 1228, 1230, 1232, 1234, 1236, 1238, 1240, 1242, 1244, 1246, 1248, 1250, 1252, 1254, 1256, 1258, 1260, 1262, 1264, 1266, 1268] _ (by decide +kernel) (by decide +kernel), tyX10_ok, nmX10, zIn 1062 (by decide +kernel) rfl, zIn 105 (by decide +kernel) rfl, by decide +kernel⟩
theorem zsplit {α : Type} (p : α → Bool) (n : Nat) : ∀ (m : Nat) (l : List α), (∀ q, q < m → ((l.drop (n * q)).take n).all p = true) → l.length ≤ n * m → l.all p = true := by
  intro m
  induction m with
  | zero =>
    intro l _ hl
    have : l = [] := List.eq_nil_of_length_eq_zero (by omega)
    rw [this]
    rfl
  | succ m ih =>
    intro l h hl
    have h0 := h 0 (by omega)
    rw [Nat.mul_zero, List.drop_zero] at h0
    rw [← List.take_append_drop n l, List.all_append, h0, Bool.true_and]
    refine ih (l.drop n) (fun q hq => ?_) (by rw [List.length_drop, Nat.mul_succ] at *; omega)
    have := h (q + 1) (by omega)
    rw [List.drop_drop]
    rwa [Nat.mul_succ, Nat.add_comm] at this
theorem zkl_all : zc250.all (zck 250) = true := by
  refine zsplit (zck 250) 64 12 zc250 (fun q hq => ?_) (by decide +kernel)
  match q, hq with
  | 0, _ => exact zkl0
  | 1, _ => exact zkl1
  | 2, _ => exact zkl2
  | 3, _ => exact zkl3
  | 4, _ => exact zkl4
  | 5, _ => exact zkl5
  | 6, _ => exact zkl6
  | 7, _ => exact zkl7
  | 8, _ => exact zkl8
  | 9, _ => exact zkl9
  | 10, _ => exact zkl10
  | 11, _ => exact zkl11
theorem zkk_all (m : Nat) (h : m < 251) : zkk m = true := by
  have key : ∀ a n, (List.range' a n).all zkk = true → a ≤ m → m < a + n → zkk m = true := fun a n hc h1 h2 => List.all_eq_true.mp hc m (List.mem_range'_1.mpr ⟨h1, h2⟩)
  by_cases h0 : m < 25
  · exact key 0 25 zkc0 (by omega) (by omega)
  by_cases h1 : m < 50
  · exact key 25 25 zkc1 (by omega) (by omega)
  by_cases h2 : m < 79
  · exact key 50 29 zkc2 (by omega) (by omega)
  by_cases h3 : m < 98
  · exact key 79 19 zkc3 (by omega) (by omega)
  by_cases h4 : m < 127
  · exact key 98 29 zkc4 (by omega) (by omega)
  by_cases h5 : m < 151
  · exact key 127 24 zkc5 (by omega) (by omega)
  by_cases h6 : m < 168
  · exact key 151 17 zkc6 (by omega) (by omega)
  by_cases h7 : m < 188
  · exact key 168 20 zkc7 (by omega) (by omega)
  by_cases h8 : m < 208
  · exact key 188 20 zkc8 (by omega) (by omega)
  by_cases h9 : m < 224
  · exact key 208 16 zkc9 (by omega) (by omega)
  by_cases h10 : m < 238
  · exact key 224 14 zkc10 (by omega) (by omega)
  by_cases h11 : m < 250
  · exact key 238 12 zkc11 (by omega) (by omega)
  · have e : m = 250 := by omega
    subst e
    unfold zkk
    rw [show zC 250 = zc250 from rfl, zkl_all, Bool.and_true]
    decide +kernel
theorem zC_none {m : Nat} (h : ¬ m < 251) : zC m = [] := by
  unfold zC
  rw [show Nat.blt m 251 = false by
    cases hb : Nat.blt m 251
    · rfl
    · exact absurd (Nat.blt_eq.mp hb) h]
  rfl
theorem zall_ok : zall zF zY zB zX zT zTs zNw zAO := by
  refine ⟨fun mid pc x hF => ?_, zcls_ok, zTs_good, zNw_ok⟩
  have hF' : zfd (zC mid) pc = some x := hF
  by_cases hm : mid < 251
  · have h := zkk_all mid hm
    unfold zkk at h
    rw [Bool.and_eq_true] at h
    exact zck_ok (x := (pc, x)) (of_decide_eq_true h.1) (List.all_eq_true.mp h.2 (pc, x) (zfd_in hF'))
  · rw [zC_none hm] at hF'
    cases hF'
