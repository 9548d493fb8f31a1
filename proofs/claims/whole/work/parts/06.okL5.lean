theorem ok_L_25 : bg_okn me_L_law cd_L_law 25 = true := by decide +kernel
theorem ok_L_26 : bg_okn me_L_law cd_L_law 26 = true := by decide +kernel
theorem ok_L_27 : bg_okn me_L_law cd_L_law 27 = true := by decide +kernel
theorem ok_L_28 : bg_okn me_L_law cd_L_law 28 = true := by decide +kernel
