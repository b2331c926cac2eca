noncomputable section
theorem gw_rk0 : gw_cl0.all (gk_rk RL gb_flL gb_slL gb_nlL gb_llL gb_tlL gk_nwL gk_oiL cL_law) = true := by decide +kernel
theorem gw_rk1 : gw_cl1.all (gk_rk RL gb_flL gb_slL gb_nlL gb_llL gb_tlL gk_nwL gk_oiL cL_law) = true := by decide +kernel
theorem gw_rk2 : gw_cl2.all (gk_rk RL gb_flL gb_slL gb_nlL gb_llL gb_tlL gk_nwL gk_oiL cL_law) = true := by decide +kernel
theorem gw_rk3 : gw_cl3.all (gk_rk RL gb_flL gb_slL gb_nlL gb_llL gb_tlL gk_nwL gk_oiL cL_law) = true := by decide +kernel
theorem gw_rk4 : gw_cl4.all (gk_rk RL gb_flL gb_slL gb_nlL gb_llL gb_tlL gk_nwL gk_oiL cL_law) = true := by decide +kernel
theorem gw_rk5 : gw_cl5.all (gk_rk RL gb_flL gb_slL gb_nlL gb_llL gb_tlL gk_nwL gk_oiL cL_law) = true := by decide +kernel
theorem gw_rk6 : gw_cl6.all (gk_rk RL gb_flL gb_slL gb_nlL gb_llL gb_tlL gk_nwL gk_oiL cL_law) = true := by decide +kernel
theorem gw_rk7 : gw_cl7.all (gk_rk RL gb_flL gb_slL gb_nlL gb_llL gb_tlL gk_nwL gk_oiL cL_law) = true := by decide +kernel
theorem gw_rk8 : gw_cl8.all (gk_rk RL gb_flL gb_slL gb_nlL gb_llL gb_tlL gk_nwL gk_oiL cL_law) = true := by decide +kernel
theorem gw_rk9 : gw_cl9.all (gk_rk RL gb_flL gb_slL gb_nlL gb_llL gb_tlL gk_nwL gk_oiL cL_law) = true := by decide +kernel
theorem gw_rk10 : gw_cl10.all (gk_rk RL gb_flL gb_slL gb_nlL gb_llL gb_tlL gk_nwL gk_oiL cL_law) = true := by decide +kernel
theorem gw_rk11 : gw_cl11.all (gk_rk RL gb_flL gb_slL gb_nlL gb_llL gb_tlL gk_nwL gk_oiL cL_law) = true := by decide +kernel
theorem gw_rk12 : gw_cl12.all (gk_rk RL gb_flL gb_slL gb_nlL gb_llL gb_tlL gk_nwL gk_oiL cL_law) = true := by decide +kernel
theorem gw_rk13 : gw_cl13.all (gk_rk RL gb_flL gb_slL gb_nlL gb_llL gb_tlL gk_nwL gk_oiL cL_law) = true := by decide +kernel
theorem gw_rk14 : gw_cl14.all (gk_rk RL gb_flL gb_slL gb_nlL gb_llL gb_tlL gk_nwL gk_oiL cL_law) = true := by decide +kernel
theorem gw_rk15 : gw_cl15.all (gk_rk RL gb_flL gb_slL gb_nlL gb_llL gb_tlL gk_nwL gk_oiL cL_law) = true := by decide +kernel
theorem gw_rk16 : gw_cl16.all (gk_rk RL gb_flL gb_slL gb_nlL gb_llL gb_tlL gk_nwL gk_oiL cL_law) = true := by decide +kernel
theorem gw_rkA : ∀ i, (gw_chs i).all (gk_rk RL gb_flL gb_slL gb_nlL gb_llL gb_tlL gk_nwL gk_oiL cL_law) = true := fun i => match i with
  | 0 => gw_rk0
  | 1 => gw_rk1
  | 2 => gw_rk2
  | 3 => gw_rk3
  | 4 => gw_rk4
  | 5 => gw_rk5
  | 6 => gw_rk6
  | 7 => gw_rk7
  | 8 => gw_rk8
  | 9 => gw_rk9
  | 10 => gw_rk10
  | 11 => gw_rk11
  | 12 => gw_rk12
  | 13 => gw_rk13
  | 14 => gw_rk14
  | 15 => gw_rk15
  | 16 => gw_rk16
  | m + 17 => rfl
end
