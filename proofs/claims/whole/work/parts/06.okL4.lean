theorem ok_L_20 : bg_okn me_L_law cd_L_law 20 = true := by decide +kernel
theorem ok_L_21 : bg_okn me_L_law cd_L_law 21 = true := by decide +kernel
theorem ok_L_22 : bg_okn me_L_law cd_L_law 22 = true := by decide +kernel
theorem ok_L_23 : bg_okn me_L_law cd_L_law 23 = true := by decide +kernel
theorem ok_L_24 : bg_okn me_L_law cd_L_law 24 = true := by decide +kernel
