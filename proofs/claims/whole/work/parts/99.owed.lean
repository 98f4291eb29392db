theorem i_vc : Claimed_1_1 ∧ Claimed_1_2 := kz_vc (bz_BofRd cz_Rd)
