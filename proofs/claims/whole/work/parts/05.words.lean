theorem zt1 : ∀ w ∈ tables_1_1, w ∈ tables_1 := fun w h => List.mem_append_left _ h
theorem zt2 : ∀ w ∈ tables_1_2, w ∈ tables_1 := fun w h => List.mem_append_right _ (List.mem_append_left _ h)
theorem zt3 : ∀ w ∈ tables_1_3, w ∈ tables_1 := fun w h => List.mem_append_right _ (List.mem_append_right _ (List.mem_append_left _ h))
theorem zt4 : ∀ w ∈ tables_1_4, w ∈ tables_1 := fun w h => List.mem_append_right _ (List.mem_append_right _ (List.mem_append_right _ (List.mem_append_left _ h)))
theorem zt5 : ∀ w ∈ tables_1_5, w ∈ tables_1 := fun w h => List.mem_append_right _ (List.mem_append_right _ (List.mem_append_right _ (List.mem_append_right _ (List.mem_append_left _ h))))
theorem zt6 : ∀ w ∈ tables_1_6, w ∈ tables_1 := fun w h => List.mem_append_right _ (List.mem_append_right _ (List.mem_append_right _ (List.mem_append_right _ (List.mem_append_right _ (List.mem_append_left _ h)))))
theorem zt7 : ∀ w ∈ tables_1_7, w ∈ tables_1 := fun w h => List.mem_append_right _ (List.mem_append_right _ (List.mem_append_right _ (List.mem_append_right _ (List.mem_append_right _ (List.mem_append_right _ (List.mem_append_left _ h))))))
theorem zt8 : ∀ w ∈ tables_1_8, w ∈ tables_1 := fun w h => List.mem_append_right _ (List.mem_append_right _ (List.mem_append_right _ (List.mem_append_right _ (List.mem_append_right _ (List.mem_append_right _ (List.mem_append_right _ (h)))))))
set_option maxRecDepth 100000 in
theorem zi0 : ∀ w ∈ u_ws RX0 TX0 9, w ∈ lw_tbl := by decide +kernel
set_option maxRecDepth 100000 in
theorem zj0 : ∀ w ∈ u_ws RX0 TX0 9, goodWord w = true := by decide +kernel
theorem zc0 : zCF 0 RX0 TX0 9 := ⟨rfl, fun w h => ztb_in (zi0 w h) (zj0 w h), tyX0_ok, nmX0, by decide⟩
set_option maxRecDepth 100000 in
theorem zi1 : ∀ w ∈ u_ws RX1 TX1 8, w ∈ lw_tbl := by decide +kernel
set_option maxRecDepth 100000 in
theorem zj1 : ∀ w ∈ u_ws RX1 TX1 8, goodWord w = true := by decide +kernel
theorem zc1 : zCF 1 RX1 TX1 8 := ⟨rfl, fun w h => ztb_in (zi1 w h) (zj1 w h), tyX1_ok, nmX1, by decide⟩
set_option maxRecDepth 100000 in
theorem zi2 : ∀ w ∈ u_ws RX2 TX2 1, w ∈ lw_tbl := by decide +kernel
set_option maxRecDepth 100000 in
theorem zj2 : ∀ w ∈ u_ws RX2 TX2 1, goodWord w = true := by decide +kernel
theorem zc2 : zCF 2 RX2 TX2 1 := ⟨rfl, fun w h => ztb_in (zi2 w h) (zj2 w h), tyX2_ok, nmX2, by decide⟩
set_option maxRecDepth 100000 in
theorem zi3 : ∀ w ∈ u_ws RX3 TX3 9, w ∈ lw_tbl := by decide +kernel
set_option maxRecDepth 100000 in
theorem zj3 : ∀ w ∈ u_ws RX3 TX3 9, goodWord w = true := by decide +kernel
theorem zc3 : zCF 3 RX3 TX3 9 := ⟨rfl, fun w h => ztb_in (zi3 w h) (zj3 w h), tyX3_ok, nmX3, by decide⟩
set_option maxRecDepth 100000 in
theorem zi4 : ∀ w ∈ u_ws RX4 TX4 8, w ∈ lw_tbl := by decide +kernel
set_option maxRecDepth 100000 in
theorem zj4 : ∀ w ∈ u_ws RX4 TX4 8, goodWord w = true := by decide +kernel
theorem zc4 : zCF 4 RX4 TX4 8 := ⟨rfl, fun w h => ztb_in (zi4 w h) (zj4 w h), tyX4_ok, nmX4, by decide⟩
set_option maxRecDepth 100000 in
theorem zi5 : ∀ w ∈ u_ws RX5 TX5 15, w ∈ lw_tbl := by decide +kernel
set_option maxRecDepth 100000 in
theorem zj5 : ∀ w ∈ u_ws RX5 TX5 15, goodWord w = true := by decide +kernel
theorem zc5 : zCF 5 RX5 TX5 15 := ⟨rfl, fun w h => ztb_in (zi5 w h) (zj5 w h), tyX5_ok, nmX5, by decide⟩
set_option maxRecDepth 100000 in
theorem zi6 : ∀ w ∈ u_ws RX7 TX7 13, w ∈ lw_tbl := by decide +kernel
set_option maxRecDepth 100000 in
theorem zj6 : ∀ w ∈ u_ws RX7 TX7 13, goodWord w = true := by decide +kernel
theorem zc6 : zCF 6 RX7 TX7 13 := ⟨rfl, fun w h => ztb_in (zi6 w h) (zj6 w h), tyX7_ok, nmX7, by decide⟩
set_option maxRecDepth 100000 in
theorem zi7 : ∀ w ∈ u_ws RX8 TX8 4, w ∈ lw_tbl := by decide +kernel
set_option maxRecDepth 100000 in
theorem zj7 : ∀ w ∈ u_ws RX8 TX8 4, goodWord w = true := by decide +kernel
theorem zc7 : zCF 7 RX8 TX8 4 := ⟨rfl, fun w h => ztb_in (zi7 w h) (zj7 w h), tyX8_ok, nmX8, by decide⟩
set_option maxRecDepth 100000 in
theorem zi8 : ∀ w ∈ u_ws RX9 TX9 14, w ∈ lw_tbl := by decide +kernel
set_option maxRecDepth 100000 in
theorem zj8 : ∀ w ∈ u_ws RX9 TX9 14, goodWord w = true := by decide +kernel
theorem zc8 : zCF 8 RX9 TX9 14 := ⟨rfl, fun w h => ztb_in (zi8 w h) (zj8 w h), tyX9_ok, nmX9, by decide⟩
set_option maxRecDepth 100000 in
theorem zi9 : ∀ w ∈ u_ws RX10 TX10 68, w ∈ lw_tbl := by decide +kernel
set_option maxRecDepth 100000 in
theorem zj9 : ∀ w ∈ u_ws RX10 TX10 68, goodWord w = true := by decide +kernel
theorem zc9 : zCF 9 RX10 TX10 68 := ⟨rfl, fun w h => ztb_in (zi9 w h) (zj9 w h), tyX10_ok, nmX10, by decide⟩
