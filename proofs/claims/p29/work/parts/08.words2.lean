/-! the words of the law's longer methods: the code is named alike on both sides -/
set_option maxRecDepth 100000 in
theorem tw_k_L_refuses : Cond.code yL_refuses cL_refuses 6 (some .boolean) ∈ hw_T := hw_in 185 rfl (by decide +kernel)
set_option maxRecDepth 100000 in
theorem tw_k_L_holds : Cond.code yL_holds cL_holds 18 (some .boolean) ∈ hw_T := hw_in 737 rfl (by decide +kernel)
set_option maxRecDepth 100000 in
theorem tw_k_L_act : Cond.code yL_act cL_act 6 (some .int) ∈ hw_T := hw_in 760 rfl (by decide +kernel)
set_option maxRecDepth 100000 in
theorem tw_k_L_alike : Cond.code yL_alike cL_alike 5 (some .boolean) ∈ hw_T := hw_in 767 rfl (by decide +kernel)
set_option maxRecDepth 100000 in
theorem tw_k_L_best : Cond.code yL_best cL_best 14 (some .boolean) ∈ hw_T := hw_in 774 rfl (by decide +kernel)
set_option maxRecDepth 100000 in
theorem tw_k_L_waters : Cond.code yL_waters cL_waters 11 (some .boolean) ∈ hw_T := hw_in 780 rfl (by decide +kernel)
