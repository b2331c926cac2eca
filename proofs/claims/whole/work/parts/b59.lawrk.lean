noncomputable section
theorem gw_rk0 : gw_cl0.all (gk_rk RL gb_flL gb_slL gb_nlL gb_llL gb_tlL gk_nwL gk_oiL cL_law) = true := by decide +kernel
theorem gw_rk1 : gw_cl1.all (gk_rk RL gb_flL gb_slL gb_nlL gb_llL gb_tlL gk_nwL gk_oiL cL_law) = true := by decide +kernel
theorem gw_rk2 : gw_cl2.all (gk_rk RL gb_flL gb_slL gb_nlL gb_llL gb_tlL gk_nwL gk_oiL cL_law) = true := by decide +kernel
theorem gw_rk3 : gw_cl3.all (gk_rk RL gb_flL gb_slL gb_nlL gb_llL gb_tlL gk_nwL gk_oiL cL_law) = true := by decide +kernel
theorem gw_rk4 : gw_cl4.all (gk_rk RL gb_flL gb_slL gb_nlL gb_llL gb_tlL gk_nwL gk_oiL cL_law) = true := by decide +kernel
theorem gw_rk5 : gw_cl5.all (gk_rk RL gb_flL gb_slL gb_nlL gb_llL gb_tlL gk_nwL gk_oiL cL_law) = true := by decide +kernel
theorem gw_rk6 : gw_cl6.all (gk_rk RL gb_flL gb_slL gb_nlL gb_llL gb_tlL gk_nwL gk_oiL cL_law) = true := by decide +kernel
theorem gw_rk7 : gw_cl7.all (gk_rk RL gb_flL gb_slL gb_nlL gb_llL gb_tlL gk_nwL gk_oiL cL_law) = true := by decide +kernel
theorem gw_rk8 : gw_cl8.all (gk_rk RL gb_flL gb_slL gb_nlL gb_llL gb_tlL gk_nwL gk_oiL cL_law) = true := by decide +kernel
theorem gw_rk9 : gw_cl9.all (gk_rk RL gb_flL gb_slL gb_nlL gb_llL gb_tlL gk_nwL gk_oiL cL_law) = true := by decide +kernel
theorem gw_rk10 : gw_cl10.all (gk_rk RL gb_flL gb_slL gb_nlL gb_llL gb_tlL gk_nwL gk_oiL cL_law) = true := by decide +kernel
theorem gw_rk11 : gw_cl11.all (gk_rk RL gb_flL gb_slL gb_nlL gb_llL gb_tlL gk_nwL gk_oiL cL_law) = true := by decide +kernel
theorem gw_rk12 : gw_cl12.all (gk_rk RL gb_flL gb_slL gb_nlL gb_llL gb_tlL gk_nwL gk_oiL cL_law) = true := by decide +kernel
theorem gw_rk13 : gw_cl13.all (gk_rk RL gb_flL gb_slL gb_nlL gb_llL gb_tlL gk_nwL gk_oiL cL_law) = true := by decide +kernel
theorem gw_rk14 : gw_cl14.all (gk_rk RL gb_flL gb_slL gb_nlL gb_llL gb_tlL gk_nwL gk_oiL cL_law) = true := by decide +kernel
theorem gw_rk15 : gw_cl15.all (gk_rk RL gb_flL gb_slL gb_nlL gb_llL gb_tlL gk_nwL gk_oiL cL_law) = true := by decide +kernel
theorem gw_rk16 : gw_cl16.all (gk_rk RL gb_flL gb_slL gb_nlL gb_llL gb_tlL gk_nwL gk_oiL cL_law) = true := by decide +kernel
theorem gw_rk17 : gw_cl17.all (gk_rk RL gb_flL gb_slL gb_nlL gb_llL gb_tlL gk_nwL gk_oiL cL_law) = true := by decide +kernel
theorem gw_rk18 : gw_cl18.all (gk_rk RL gb_flL gb_slL gb_nlL gb_llL gb_tlL gk_nwL gk_oiL cL_law) = true := by decide +kernel
theorem gw_rk19 : gw_cl19.all (gk_rk RL gb_flL gb_slL gb_nlL gb_llL gb_tlL gk_nwL gk_oiL cL_law) = true := by decide +kernel
theorem gw_rk20 : gw_cl20.all (gk_rk RL gb_flL gb_slL gb_nlL gb_llL gb_tlL gk_nwL gk_oiL cL_law) = true := by decide +kernel
theorem gw_rk21 : gw_cl21.all (gk_rk RL gb_flL gb_slL gb_nlL gb_llL gb_tlL gk_nwL gk_oiL cL_law) = true := by decide +kernel
theorem gw_rk22 : gw_cl22.all (gk_rk RL gb_flL gb_slL gb_nlL gb_llL gb_tlL gk_nwL gk_oiL cL_law) = true := by decide +kernel
theorem gw_rk23 : gw_cl23.all (gk_rk RL gb_flL gb_slL gb_nlL gb_llL gb_tlL gk_nwL gk_oiL cL_law) = true := by decide +kernel
theorem gw_rk24 : gw_cl24.all (gk_rk RL gb_flL gb_slL gb_nlL gb_llL gb_tlL gk_nwL gk_oiL cL_law) = true := by decide +kernel
theorem gw_rk25 : gw_cl25.all (gk_rk RL gb_flL gb_slL gb_nlL gb_llL gb_tlL gk_nwL gk_oiL cL_law) = true := by decide +kernel
theorem gw_rk26 : gw_cl26.all (gk_rk RL gb_flL gb_slL gb_nlL gb_llL gb_tlL gk_nwL gk_oiL cL_law) = true := by decide +kernel
theorem gw_rk27 : gw_cl27.all (gk_rk RL gb_flL gb_slL gb_nlL gb_llL gb_tlL gk_nwL gk_oiL cL_law) = true := by decide +kernel
theorem gw_rk28 : gw_cl28.all (gk_rk RL gb_flL gb_slL gb_nlL gb_llL gb_tlL gk_nwL gk_oiL cL_law) = true := by decide +kernel
theorem gw_rk29 : gw_cl29.all (gk_rk RL gb_flL gb_slL gb_nlL gb_llL gb_tlL gk_nwL gk_oiL cL_law) = true := by decide +kernel
theorem gw_rk30 : gw_cl30.all (gk_rk RL gb_flL gb_slL gb_nlL gb_llL gb_tlL gk_nwL gk_oiL cL_law) = true := by decide +kernel
theorem gw_rk31 : gw_cl31.all (gk_rk RL gb_flL gb_slL gb_nlL gb_llL gb_tlL gk_nwL gk_oiL cL_law) = true := by decide +kernel
theorem gw_rk32 : gw_cl32.all (gk_rk RL gb_flL gb_slL gb_nlL gb_llL gb_tlL gk_nwL gk_oiL cL_law) = true := by decide +kernel
theorem gw_rk33 : gw_cl33.all (gk_rk RL gb_flL gb_slL gb_nlL gb_llL gb_tlL gk_nwL gk_oiL cL_law) = true := by decide +kernel
theorem gw_rk34 : gw_cl34.all (gk_rk RL gb_flL gb_slL gb_nlL gb_llL gb_tlL gk_nwL gk_oiL cL_law) = true := by decide +kernel
theorem gw_rk35 : gw_cl35.all (gk_rk RL gb_flL gb_slL gb_nlL gb_llL gb_tlL gk_nwL gk_oiL cL_law) = true := by decide +kernel
theorem gw_rk36 : gw_cl36.all (gk_rk RL gb_flL gb_slL gb_nlL gb_llL gb_tlL gk_nwL gk_oiL cL_law) = true := by decide +kernel
theorem gw_rk37 : gw_cl37.all (gk_rk RL gb_flL gb_slL gb_nlL gb_llL gb_tlL gk_nwL gk_oiL cL_law) = true := by decide +kernel
theorem gw_rk38 : gw_cl38.all (gk_rk RL gb_flL gb_slL gb_nlL gb_llL gb_tlL gk_nwL gk_oiL cL_law) = true := by decide +kernel
theorem gw_rk39 : gw_cl39.all (gk_rk RL gb_flL gb_slL gb_nlL gb_llL gb_tlL gk_nwL gk_oiL cL_law) = true := by decide +kernel
theorem gw_rk40 : gw_cl40.all (gk_rk RL gb_flL gb_slL gb_nlL gb_llL gb_tlL gk_nwL gk_oiL cL_law) = true := by decide +kernel
theorem gw_rk41 : gw_cl41.all (gk_rk RL gb_flL gb_slL gb_nlL gb_llL gb_tlL gk_nwL gk_oiL cL_law) = true := by decide +kernel
theorem gw_rk42 : gw_cl42.all (gk_rk RL gb_flL gb_slL gb_nlL gb_llL gb_tlL gk_nwL gk_oiL cL_law) = true := by decide +kernel
theorem gw_rkA : ∀ i, (gw_chs i).all (gk_rk RL gb_flL gb_slL gb_nlL gb_llL gb_tlL gk_nwL gk_oiL cL_law) = true := fun i => match i with
  | 0 => gw_rk0
  | 1 => gw_rk1
  | 2 => gw_rk2
  | 3 => gw_rk3
  | 4 => gw_rk4
  | 5 => gw_rk5
  | 6 => gw_rk6
  | 7 => gw_rk7
  | 8 => gw_rk8
  | 9 => gw_rk9
  | 10 => gw_rk10
  | 11 => gw_rk11
  | 12 => gw_rk12
  | 13 => gw_rk13
  | 14 => gw_rk14
  | 15 => gw_rk15
  | 16 => gw_rk16
  | 17 => gw_rk17
  | 18 => gw_rk18
  | 19 => gw_rk19
  | 20 => gw_rk20
  | 21 => gw_rk21
  | 22 => gw_rk22
  | 23 => gw_rk23
  | 24 => gw_rk24
  | 25 => gw_rk25
  | 26 => gw_rk26
  | 27 => gw_rk27
  | 28 => gw_rk28
  | 29 => gw_rk29
  | 30 => gw_rk30
  | 31 => gw_rk31
  | 32 => gw_rk32
  | 33 => gw_rk33
  | 34 => gw_rk34
  | 35 => gw_rk35
  | 36 => gw_rk36
  | 37 => gw_rk37
  | 38 => gw_rk38
  | 39 => gw_rk39
  | 40 => gw_rk40
  | 41 => gw_rk41
  | 42 => gw_rk42
  | m + 43 => rfl
end
