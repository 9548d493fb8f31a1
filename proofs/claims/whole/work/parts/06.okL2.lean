theorem ok_L_10 : bg_okn me_L_law cd_L_law 10 = true := by decide +kernel
theorem ok_L_11 : bg_okn me_L_law cd_L_law 11 = true := by decide +kernel
theorem ok_L_12 : bg_okn me_L_law cd_L_law 12 = true := by decide +kernel
theorem ok_L_13 : bg_okn me_L_law cd_L_law 13 = true := by decide +kernel
theorem ok_L_14 : bg_okn me_L_law cd_L_law 14 = true := by decide +kernel
