theorem ok_L_5 : bg_okn me_L_law cd_L_law 5 = true := by decide +kernel
theorem ok_L_6 : bg_okn me_L_law cd_L_law 6 = true := by decide +kernel
theorem ok_L_7 : bg_okn me_L_law cd_L_law 7 = true := by decide +kernel
theorem ok_L_8 : bg_okn me_L_law cd_L_law 8 = true := by decide +kernel
theorem ok_L_9 : bg_okn me_L_law cd_L_law 9 = true := by decide +kernel
