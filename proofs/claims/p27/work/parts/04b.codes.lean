set_option maxRecDepth 20000 in
theorem wd538 : Cond.code yX1_forget cX1_forget 1 none ∈ wsL_law := List.mem_filter.mpr ⟨List.mem_append_right _ (List.mem_append_right _ (List.mem_append_right _ (List.mem_append_left _ (List.mem_of_getElem? (i := 219) rfl)))), by decide +kernel⟩
set_option maxRecDepth 20000 in
theorem wd542 : Cond.code yX0_forget cX0_forget 1 none ∈ wsL_law := List.mem_filter.mpr ⟨List.mem_append_right _ (List.mem_append_right _ (List.mem_append_right _ (List.mem_append_left _ (List.mem_of_getElem? (i := 223) rfl)))), by decide +kernel⟩
set_option maxRecDepth 20000 in
theorem wd546 : Cond.code yX8_forget cX8_forget 1 none ∈ wsL_law := List.mem_filter.mpr ⟨List.mem_append_right _ (List.mem_append_right _ (List.mem_append_right _ (List.mem_append_left _ (List.mem_of_getElem? (i := 227) rfl)))), by decide +kernel⟩
set_option maxRecDepth 20000 in
theorem wd896 : Cond.code yX4_everyone cX4_everyone 1 (some .int) ∈ wsL_law := List.mem_filter.mpr ⟨List.mem_append_right _ (List.mem_append_right _ (List.mem_append_right _ (List.mem_append_right _ (List.mem_append_left _ (List.mem_of_getElem? (i := 78) rfl))))), by decide +kernel⟩
set_option maxRecDepth 20000 in
theorem wd910 : Cond.code yX7_waitedBy cX7_waitedBy 2 (some .int) ∈ wsL_law := List.mem_filter.mpr ⟨List.mem_append_right _ (List.mem_append_right _ (List.mem_append_right _ (List.mem_append_right _ (List.mem_append_left _ (List.mem_of_getElem? (i := 90) rfl))))), by decide +kernel⟩
set_option maxRecDepth 20000 in
theorem wd998 : Cond.code yX9_stands cX9_stands 1 (some .boolean) ∈ wsL_law := List.mem_filter.mpr ⟨List.mem_append_right _ (List.mem_append_right _ (List.mem_append_right _ (List.mem_append_right _ (List.mem_append_left _ (List.mem_of_getElem? (i := 101) rfl))))), by decide +kernel⟩
