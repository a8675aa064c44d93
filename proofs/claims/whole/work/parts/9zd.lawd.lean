set_option maxRecDepth 100000 in
theorem lwE0 : ∀ q ∈ lwI0, decode code q.1 = .ok q.2 := by decide +kernel
set_option maxRecDepth 100000 in
theorem lwE1 : ∀ q ∈ lwI1, decode code q.1 = .ok q.2 := by decide +kernel
set_option maxRecDepth 100000 in
theorem lwE2 : ∀ q ∈ lwI2, decode code q.1 = .ok q.2 := by decide +kernel
set_option maxRecDepth 100000 in
theorem lwE3 : ∀ q ∈ lwI3, decode code q.1 = .ok q.2 := by decide +kernel
set_option maxRecDepth 100000 in
theorem lwE4 : ∀ q ∈ lwI4, decode code q.1 = .ok q.2 := by decide +kernel
set_option maxRecDepth 100000 in
theorem lwE5 : ∀ q ∈ lwI5, decode code q.1 = .ok q.2 := by decide +kernel
set_option maxRecDepth 100000 in
theorem lwE6 : ∀ q ∈ lwI6, decode code q.1 = .ok q.2 := by decide +kernel
set_option maxRecDepth 100000 in
theorem lwE7 : ∀ q ∈ lwI7, decode code q.1 = .ok q.2 := by decide +kernel
set_option maxRecDepth 100000 in
theorem lwE8 : ∀ q ∈ lwI8, decode code q.1 = .ok q.2 := by decide +kernel
set_option maxRecDepth 100000 in
theorem lwE9 : ∀ q ∈ lwI9, decode code q.1 = .ok q.2 := by decide +kernel
set_option maxRecDepth 100000 in
theorem lwE10 : ∀ q ∈ lwI10, decode code q.1 = .ok q.2 := by decide +kernel
set_option maxRecDepth 100000 in
theorem lwE11 : ∀ q ∈ lwI11, decode code q.1 = .ok q.2 := by decide +kernel
set_option maxRecDepth 100000 in
theorem lwE12 : ∀ q ∈ lwI12, decode code q.1 = .ok q.2 := by decide +kernel
set_option maxRecDepth 100000 in
theorem lwE13 : ∀ q ∈ lwI13, decode code q.1 = .ok q.2 := by decide +kernel
set_option maxRecDepth 100000 in
theorem lwE14 : ∀ q ∈ lwI14, decode code q.1 = .ok q.2 := by decide +kernel
set_option maxRecDepth 100000 in
theorem lwE15 : ∀ q ∈ lwI15, decode code q.1 = .ok q.2 := by decide +kernel
set_option maxRecDepth 100000 in
theorem lwE16 : ∀ q ∈ lwI16, decode code q.1 = .ok q.2 := by decide +kernel
set_option maxRecDepth 100000 in
theorem lwE17 : ∀ q ∈ lwI17, decode code q.1 = .ok q.2 := by decide +kernel
set_option maxRecDepth 100000 in
theorem lwE18 : ∀ q ∈ lwI18, decode code q.1 = .ok q.2 := by decide +kernel
set_option maxRecDepth 100000 in
theorem lwE19 : ∀ q ∈ lwI19, decode code q.1 = .ok q.2 := by decide +kernel
set_option maxRecDepth 100000 in
theorem lwE20 : ∀ q ∈ lwI20, decode code q.1 = .ok q.2 := by decide +kernel
set_option maxRecDepth 100000 in
theorem lwE21 : ∀ q ∈ lwI21, decode code q.1 = .ok q.2 := by decide +kernel
set_option maxRecDepth 100000 in
theorem lwE22 : ∀ q ∈ lwI22, decode code q.1 = .ok q.2 := by decide +kernel
set_option maxRecDepth 100000 in
theorem lwE23 : ∀ q ∈ lwI23, decode code q.1 = .ok q.2 := by decide +kernel
set_option maxRecDepth 100000 in
theorem lwE24 : ∀ q ∈ lwI24, decode code q.1 = .ok q.2 := by decide +kernel
set_option maxRecDepth 100000 in
theorem lwE25 : ∀ q ∈ lwI25, decode code q.1 = .ok q.2 := by decide +kernel
set_option maxRecDepth 100000 in
theorem lwE26 : ∀ q ∈ lwI26, decode code q.1 = .ok q.2 := by decide +kernel
set_option maxRecDepth 100000 in
theorem lwE27 : ∀ q ∈ lwI27, decode code q.1 = .ok q.2 := by decide +kernel
set_option maxRecDepth 100000 in
theorem lwE28 : ∀ q ∈ lwI28, decode code q.1 = .ok q.2 := by decide +kernel
set_option maxRecDepth 100000 in
theorem lwE29 : ∀ q ∈ lwI29, decode code q.1 = .ok q.2 := by decide +kernel
theorem eL_law : zdec mL_law := List.forall_mem_append.mpr ⟨lwE0, List.forall_mem_append.mpr ⟨lwE1, List.forall_mem_append.mpr ⟨lwE2, List.forall_mem_append.mpr ⟨lwE3, List.forall_mem_append.mpr ⟨lwE4, List.forall_mem_append.mpr ⟨lwE5, List.forall_mem_append.mpr ⟨lwE6, List.forall_mem_append.mpr ⟨lwE7, List.forall_mem_append.mpr ⟨lwE8, List.forall_mem_append.mpr ⟨lwE9, List.forall_mem_append.mpr ⟨lwE10, List.forall_mem_append.mpr ⟨lwE11, List.forall_mem_append.mpr ⟨lwE12, List.forall_mem_append.mpr ⟨lwE13, List.forall_mem_append.mpr ⟨lwE14, List.forall_mem_append.mpr ⟨lwE15, List.forall_mem_append.mpr ⟨lwE16, List.forall_mem_append.mpr ⟨lwE17, List.forall_mem_append.mpr ⟨lwE18, List.forall_mem_append.mpr ⟨lwE19, List.forall_mem_append.mpr ⟨lwE20, List.forall_mem_append.mpr ⟨lwE21, List.forall_mem_append.mpr ⟨lwE22, List.forall_mem_append.mpr ⟨lwE23, List.forall_mem_append.mpr ⟨lwE24, List.forall_mem_append.mpr ⟨lwE25, List.forall_mem_append.mpr ⟨lwE26, List.forall_mem_append.mpr ⟨lwE27, List.forall_mem_append.mpr ⟨lwE28, lwE29⟩⟩⟩⟩⟩⟩⟩⟩⟩⟩⟩⟩⟩⟩⟩⟩⟩⟩⟩⟩⟩⟩⟩⟩⟩⟩⟩⟩⟩
