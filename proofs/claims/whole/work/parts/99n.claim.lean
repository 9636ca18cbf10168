theorem all_inv : S_all Inv := ⟨inv_feed, inv_end, inv_again, inv_read, inv_place, inv_told, inv_write, inv_byteAt, inv_bytes, inv_make, inv_dot, inv_sweep, inv_pixel, inv_raster, inv_holds, inv_copy, inv_same, chain_of acc_all⟩
theorem i_vc : Claimed_1_1 ∧ Claimed_1_2 := vc_of all_inv Inv_0
