theorem bz_steps : bzSteps bzInv := sorry
