set_option maxRecDepth 20000 in
theorem gc_L_refusesAny : Cond.code yL_refusesAny cL_refusesAny 5 (some .boolean) ∈ GW := gw_of 525 rfl rfl
set_option maxRecDepth 20000 in
theorem gc_L_pages : Cond.code yL_pages cL_pages 1 (some .boolean) ∈ GW := gw_of 546 rfl rfl
set_option maxRecDepth 20000 in
theorem gc_L_texts : Cond.code yL_texts cL_texts 2 (some .boolean) ∈ GW := gw_of 559 rfl rfl
