set_option maxRecDepth 1000000 in
theorem wC_L_randomChain : Cond.code yL_randomChain cL_randomChain 11 (some (.object "SpringChainLaw$Chain")) ∈ ev_ws := ev_ok 1119 rfl (by decide +kernel)
