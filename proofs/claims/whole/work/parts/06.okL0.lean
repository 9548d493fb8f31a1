def me_L_law : bg_M := (⟨"BorderGuardsLaw", "law", "([I)Z"⟩, code, 4, some .boolean, cd_L_law, (600000, 7302250), 999)
def bg_okn (M : bg_M) (cd : bg_K) (i : Nat) : Bool := match bg_nth cd i with
  | some ch => ch.2.all (fun r => bg_ok1 M r.1 r.2)
  | none => true
theorem ok_L_0 : bg_okn me_L_law cd_L_law 0 = true := by decide +kernel
theorem ok_L_1 : bg_okn me_L_law cd_L_law 1 = true := by decide +kernel
theorem ok_L_2 : bg_okn me_L_law cd_L_law 2 = true := by decide +kernel
theorem ok_L_3 : bg_okn me_L_law cd_L_law 3 = true := by decide +kernel
theorem ok_L_4 : bg_okn me_L_law cd_L_law 4 = true := by decide +kernel
