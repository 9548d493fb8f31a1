theorem ok_L_15 : bg_okn me_L_law cd_L_law 15 = true := by decide +kernel
theorem ok_L_16 : bg_okn me_L_law cd_L_law 16 = true := by decide +kernel
theorem ok_L_17 : bg_okn me_L_law cd_L_law 17 = true := by decide +kernel
theorem ok_L_18 : bg_okn me_L_law cd_L_law 18 = true := by decide +kernel
theorem ok_L_19 : bg_okn me_L_law cd_L_law 19 = true := by decide +kernel
