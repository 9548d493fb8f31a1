theorem bg_up_at (h : bg_G) (k : Nat) (i v j : Int) : bg_up h k i v k j = if j = i then v else h k j := by
  unfold bg_up
  rw [if_pos rfl]
theorem bg_up_self (h : bg_G) (k : Nat) (i v : Int) : bg_up h k i v k i = v := by rw [bg_up_at, if_pos rfl]
theorem bg_up_nj {h : bg_G} {k : Nat} {i v j : Int} (hj : j ≠ i) : bg_up h k i v k j = h k j := by rw [bg_up_at, if_neg hj]
def plc (c : Nat) : Int := bg_or (bg_shl c 1) 1
theorem s_placesOf (d : Nat) (c : Nat) (H : bg_H) (Rt : bg_R) (hR : Rt (some (.inl (plc c))) H) : bg_Ca bg_MS (d + 1) 15 [vI c] H Rt := by
  refine bg_ca (cd := cd_X0_placesOf) rfl rfl ?_
  intro X hX
  iterate 5 (refine hX _ ?_; conv => whnf)
  refine hX _ ?_; conv => whnf
  exact hR
theorem s_sumOver (d n : Nat) (s : Int) (h : bg_G) (Rt : bg_R) (hR : Rt (some (.inl (sm 12 (fun i => bt s i * h 40 i)))) (bg_SH n, h)) : bg_Ca bg_MS (d + 1) 14 [vR 38, vI s] (bg_SH n, h) Rt := by
  refine bg_ca (cd := cd_X0_sumOver) rfl rfl ?_
  intro X hX
  have l1 : ∀ i, i ≤ 12 → X (4, [oR 38, oI s, oI (sm i (fun i => bt s i * h 40 i)), oI (i : Int)], [], (bg_SH n, h), (0, 0)) := by
    refine lp_up 12 _ ?_ (fun i hi ih => ?_)
    · iterate 2 (refine hX _ ?_; conv => whnf)
      refine hX _ ?_; conv => whnf
      refine ⟨fun q7 => ?_, fun q7 => ?_⟩
      · try simp (disch := omega) only [bg_w_id, Int.toNat_natCast, rw_land, sh_land, not_true_eq_false, kc0, kc1, kc2, kc3, kc4, kc5, kc6, kc7, kc8, kc9, kc10, kc11, kc12, kc13, kc14, kc15, kc16, kc17, kc18, kc19, kc20, kc21, kc22, kc23, kc24, kc25, kc26, kc27, kc28, kc29, kc30, kc31, kc32, kc33] at q7
        refine hX _ ?_; conv => whnf
        refine hX _ ?_; conv => whnf
        exact hR
      · exfalso
        (try simp (disch := omega) only [bg_w_id, Int.toNat_natCast, rw_land, sh_land, not_true_eq_false, kc0, kc1, kc2, kc3, kc4, kc5, kc6, kc7, kc8, kc9, kc10, kc11, kc12, kc13, kc14, kc15, kc16, kc17, kc18, kc19, kc20, kc21, kc22, kc23, kc24, kc25, kc26, kc27, kc28, kc29, kc30, kc31, kc32, kc33] at q7) <;> (omega)
    · iterate 2 (refine hX _ ?_; conv => whnf)
      refine hX _ ?_; conv => whnf
      refine ⟨fun q7 => ?_, fun q7 => ?_⟩
      · exfalso
        (try simp (disch := omega) only [bg_w_id, Int.toNat_natCast, rw_land, sh_land, not_true_eq_false, kc0, kc1, kc2, kc3, kc4, kc5, kc6, kc7, kc8, kc9, kc10, kc11, kc12, kc13, kc14, kc15, kc16, kc17, kc18, kc19, kc20, kc21, kc22, kc23, kc24, kc25, kc26, kc27, kc28, kc29, kc30, kc31, kc32, kc33] at q7) <;> (omega)
      · try simp (disch := omega) only [bg_w_id, Int.toNat_natCast, rw_land, sh_land, not_true_eq_false, kc0, kc1, kc2, kc3, kc4, kc5, kc6, kc7, kc8, kc9, kc10, kc11, kc12, kc13, kc14, kc15, kc16, kc17, kc18, kc19, kc20, kc21, kc22, kc23, kc24, kc25, kc26, kc27, kc28, kc29, kc30, kc31, kc32, kc33] at q7
        iterate 9 (refine hX _ ?_; conv => whnf)
        refine hX _ ?_; conv => whnf
        try (simp (disch := omega) only [bg_w_id, Int.toNat_natCast, rw_land, sh_land, not_true_eq_false]; try conv => whnf)
        refine ⟨by first | omega | (simp (disch := omega) only [bg_w_id, Int.toNat_natCast, rw_land, sh_land, not_true_eq_false]; omega), ?_⟩
        iterate 5 (refine hX _ ?_; conv => whnf)
        exact ih
  iterate 4 (refine hX _ ?_; conv => whnf)
  exact l1 0 (by omega)
/-- the least of what the cuts bear, and the first that bears so little -/
def wls (f g : Nat → Int) : Nat → Int × Int
  | 0 => (2147483647, 0)
  | c + 1 => if f c < (wls f g c).1 then (f c, g c) else wls f g c
theorem wls_rg {f g : Nat → Int} {N : Nat} (hf : ∀ c, c < N → 0 ≤ f c ∧ f c ≤ 2147483647) : ∀ c, c ≤ N → 0 ≤ (wls f g c).1 ∧ (wls f g c).1 ≤ 2147483647
  | 0, _ => by simp [wls]
  | c + 1, h => by
    have h1 := wls_rg (g := g) hf c (by omega)
    have h2 := hf c (by omega)
    unfold wls
    split
    · exact h2
    · exact h1
theorem sm_rg {n : Nat} {f : Nat → Int} {B : Int} (hf : ∀ i, i < n → 0 ≤ f i ∧ f i ≤ B) : 0 ≤ sm n f ∧ sm n f ≤ n * B := by
  induction n with
  | zero => simp [sm]
  | succ n ih =>
    have h1 := ih (fun i hi => hf i (by omega))
    have h2 := hf n (by omega)
    have h3 : ((n + 1 : Nat) : Int) * B = n * B + B := by rw [Int.natCast_succ, Int.add_mul, Int.one_mul]
    rw [sm, h3]
    omega
theorem bt_mul_rg (s i : Int) {x B : Int} (hx : 0 ≤ x ∧ x ≤ B) : 0 ≤ bt s i * x ∧ bt s i * x ≤ B := by
  rcases bt_01 s i with h | h <;> rw [h] <;> omega
/-- what a path bears, with one more on a told one -/
def brC (h : bg_G) (held one : Int) (p : Nat) : Int := bearC h held p (if (p : Int) = one then 1 else 0)
def cutC (h : bg_G) (held one : Int) (c : Nat) : Int := sm 12 (fun p => bt (h 39 c) p * brC h held one p)
theorem bg_div100 {x : Int} (h : 0 ≤ x ∧ x ≤ 2147483647) : bg_div x 100 = x / 100 := by
  unfold bg_div
  rw [Int32.toInt_div, show (Int32.ofInt x).toInt = x from bg_w_id (by omega) (by omega), show (Int32.ofInt 100).toInt = 100 from rfl, Int.tdiv_eq_ediv_of_nonneg h.1, Int.bmod_eq_of_le (by simp; omega) (by simp; omega)]
theorem bear_rg {a z b : Int} (ha : 0 ≤ a ∧ a ≤ 99) (hz : 0 ≤ z ∧ z ≤ 100) (hb : 0 ≤ b ∧ b ≤ 1) : 0 ≤ bg_div ((a + b) * (100 - z)) 100 ∧ bg_div ((a + b) * (100 - z)) 100 ≤ a + b := by
  have h1 : 0 ≤ (a + b) * (100 - z) := Int.mul_nonneg (by omega) (by omega)
  have h2 : (a + b) * (100 - z) ≤ (a + b) * 100 := Int.mul_le_mul_of_nonneg_left (by omega) (by omega)
  rw [bg_div100 (by omega)]
  omega
theorem bearC_rg {h : bg_G} (ho : okC h) {held b : Int} {p : Nat} (hp : p < 12) (hb : 0 ≤ b ∧ b ≤ 1) : 0 ≤ bearC h held p b ∧ bearC h held p b ≤ 100 := by
  have h1 := ho.2.1 p hp
  have h2 := bear_rg (a := h (24 + p) 2) (z := h (24 + p) 5) (b := b) (by omega) (by omega) hb
  have h3 := bear_rg (a := h (24 + p) 2) (z := 0) (b := b) (by omega) (by omega) hb
  rw [show (100 : Int) - 0 = 100 from rfl] at h3
  unfold bearC hT
  split <;> omega
theorem brC_rg {h : bg_G} (ho : okC h) {held one : Int} {p : Nat} (hp : p < 12) : 0 ≤ brC h held one p ∧ brC h held one p ≤ 100 := by
  unfold brC
  refine bearC_rg ho hp ?_
  split <;> omega
theorem cutC_rg {h : bg_G} (ho : okC h) {held one : Int} {c : Nat} : 0 ≤ cutC h held one c ∧ cutC h held one c ≤ 1200 := by
  have := sm_rg (n := 12) (f := fun p => bt (h 39 c) p * brC h held one p) (B := 100) (fun i hi => bt_mul_rg _ _ (brC_rg ho hi))
  unfold cutC
  omega
theorem bearC_fr {h h' : bg_G} {held b : Int} {p : Nat} (e : h' (24 + p) = h (24 + p)) : bearC h' held p b = bearC h held p b := by
  unfold bearC hT
  rw [e]
theorem s_weigh (d n : Nat) (held one : Int) (h : bg_G) (ho : okC h) (h1 : -1 ≤ one ∧ one ≤ 12) (Rt : bg_R) (hR : ∀ h', (∀ k, k ≠ 38 → k ≠ 40 → h' k = h k) → h' 38 2 = (wls (cutC h held one) plc 64).1 → h' 38 3 = (wls (cutC h held one) plc 64).2 → Rt none (bg_SH n, h')) : bg_Ca bg_MS (d + 3) 11 [vR 38, vR 22, vI held, vI one] (bg_SH n, h) Rt := by
  refine bg_ca (cd := cd_X0_weigh) rfl rfl ?_
  intro X hX
  have hw := wls_rg (f := cutC h held one) (g := plc) (N := 64) (fun c hc => by have := cutC_rg ho (held := held) (one := one) (c := c); omega)
  have l2 : ∀ c, c ≤ 64 → ∀ (h' : bg_G) (jk : Option bg_V), (∀ k, k ≠ 38 → k ≠ 40 → h' k = h k) → (∀ p : Nat, p < 12 → h' 40 p = brC h held one p) → h' 38 2 = (wls (cutC h held one) plc c).1 → (c = 0 ∨ h' 38 3 = (wls (cutC h held one) plc c).2) → X (50, [oR 38, oR 22, oI held, oI one, oI (c : Int), jk], [], (bg_SH n, h'), (0, 0)) := by
    refine lp_up 64 _ ?_ (fun c hc ih => ?_)
    · intro h' jk hf hb e1 e2
      iterate 2 (refine hX _ ?_; conv => whnf)
      refine hX _ ?_; conv => whnf
      refine ⟨fun q54 => ?_, fun q54 => ?_⟩
      · try simp (disch := omega) only [bg_w_id, Int.toNat_natCast, rw_land, sh_land, not_true_eq_false, kc0, kc1, kc2, kc3, kc4, kc5, kc6, kc7, kc8, kc9, kc10, kc11, kc12, kc13, kc14, kc15, kc16, kc17, kc18, kc19, kc20, kc21, kc22, kc23, kc24, kc25, kc26, kc27, kc28, kc29, kc30, kc31, kc32, kc33] at q54
        refine hX _ ?_; conv => whnf
        exact hR h' hf e1 (e2.resolve_left (by omega))
      · exfalso
        (try simp (disch := omega) only [bg_w_id, Int.toNat_natCast, rw_land, sh_land, not_true_eq_false, kc0, kc1, kc2, kc3, kc4, kc5, kc6, kc7, kc8, kc9, kc10, kc11, kc12, kc13, kc14, kc15, kc16, kc17, kc18, kc19, kc20, kc21, kc22, kc23, kc24, kc25, kc26, kc27, kc28, kc29, kc30, kc31, kc32, kc33] at q54) <;> (omega)
    · intro h' jk hf hb e1 e2
      have hs : sm 12 (fun i => bt (h' 39 c) i * h' 40 i) = cutC h held one c := by
        unfold cutC
        rw [hf 39 (by omega) (by omega)]
        exact sm_congr (fun i hi => by rw [hb i hi])
      have hr := cutC_rg ho (held := held) (one := one) (c := c)
      have hr2 := hw c (by omega)
      have h0 : c = 0 → (wls (cutC h held one) plc c).1 = 2147483647 := fun e => by rw [e]; rfl
      have ew : wls (cutC h held one) plc (c + 1) = if cutC h held one c < (wls (cutC h held one) plc c).1 then (cutC h held one c, plc c) else wls (cutC h held one) plc c := rfl
      iterate 2 (refine hX _ ?_; conv => whnf)
      refine hX _ ?_; conv => whnf
      refine ⟨fun q54 => ?_, fun q54 => ?_⟩
      · exfalso
        (try simp (disch := omega) only [bg_w_id, Int.toNat_natCast, rw_land, sh_land, not_true_eq_false, kc0, kc1, kc2, kc3, kc4, kc5, kc6, kc7, kc8, kc9, kc10, kc11, kc12, kc13, kc14, kc15, kc16, kc17, kc18, kc19, kc20, kc21, kc22, kc23, kc24, kc25, kc26, kc27, kc28, kc29, kc30, kc31, kc32, kc33] at q54) <;> (omega)
      · try simp (disch := omega) only [bg_w_id, Int.toNat_natCast, rw_land, sh_land, not_true_eq_false, kc0, kc1, kc2, kc3, kc4, kc5, kc6, kc7, kc8, kc9, kc10, kc11, kc12, kc13, kc14, kc15, kc16, kc17, kc18, kc19, kc20, kc21, kc22, kc23, kc24, kc25, kc26, kc27, kc28, kc29, kc30, kc31, kc32, kc33] at q54
        iterate 4 (refine hX _ ?_; conv => whnf)
        refine hX _ ?_; conv => whnf
        try (simp (disch := omega) only [bg_w_id, Int.toNat_natCast, rw_land, sh_land, not_true_eq_false]; try conv => whnf)
        refine ⟨by first | omega | (simp (disch := omega) only [bg_w_id, Int.toNat_natCast, rw_land, sh_land, not_true_eq_false]; omega), ?_⟩
        refine hX _ ?_; conv => whnf
        try simp (disch := omega) only [bg_w_id, Int.toNat_natCast, rw_land, sh_land, not_true_eq_false]
        refine s_sumOver (d + 1) n _ _ _ ?_
        rw [hs]
        conv => whnf
        iterate 4 (refine hX _ ?_; conv => whnf)
        try simp only [kc0, kc1, kc2, kc3, kc4, kc5, kc6, kc7, kc8, kc9, kc10, kc11, kc12, kc13, kc14, kc15, kc16, kc17, kc18, kc19, kc20, kc21, kc22, kc23, kc24, kc25, kc26, kc27, kc28, kc29, kc30, kc31, kc32, kc33]
        refine hX _ ?_; conv => whnf
        refine ⟨fun q76 => ?_, fun q76 => ?_⟩
        · try simp (disch := omega) only [bg_w_id, Int.toNat_natCast, rw_land, sh_land, not_true_eq_false, kc0, kc1, kc2, kc3, kc4, kc5, kc6, kc7, kc8, kc9, kc10, kc11, kc12, kc13, kc14, kc15, kc16, kc17, kc18, kc19, kc20, kc21, kc22, kc23, kc24, kc25, kc26, kc27, kc28, kc29, kc30, kc31, kc32, kc33] at q76
          simp only [e1] at q76
          try simp (disch := omega) only [bg_w_id] at q76
          iterate 2 (refine hX _ ?_; conv => whnf)
          refine ih _ _ ?_ ?_ ?_ (Or.inr ?_)
          · intro k h38 h40
            first | exact hf k h38 h40 | (rw [bg_up_ne h38, bg_up_ne h38]; exact hf k h38 h40)
          · intro p hp
            first | exact hb p hp | (rw [bg_up_ne (by omega), bg_up_ne (by omega)]; exact hb p hp)
          · rw [ew]
            first | (rw [if_pos q76, bg_up_nj (by omega), bg_up_self]) | (rw [if_neg (by omega)]; exact e1)
          · rw [ew]
            first | (rw [if_pos q76, bg_up_self]) | (rw [if_neg (by omega)]; exact e2.resolve_left (by omega))
        · try simp (disch := omega) only [bg_w_id, Int.toNat_natCast, rw_land, sh_land, not_true_eq_false, kc0, kc1, kc2, kc3, kc4, kc5, kc6, kc7, kc8, kc9, kc10, kc11, kc12, kc13, kc14, kc15, kc16, kc17, kc18, kc19, kc20, kc21, kc22, kc23, kc24, kc25, kc26, kc27, kc28, kc29, kc30, kc31, kc32, kc33] at q76
          simp only [e1] at q76
          try simp (disch := omega) only [bg_w_id] at q76
          iterate 5 (refine hX _ ?_; conv => whnf)
          try simp only [kc0, kc1, kc2, kc3, kc4, kc5, kc6, kc7, kc8, kc9, kc10, kc11, kc12, kc13, kc14, kc15, kc16, kc17, kc18, kc19, kc20, kc21, kc22, kc23, kc24, kc25, kc26, kc27, kc28, kc29, kc30, kc31, kc32, kc33]
          refine hX _ ?_; conv => whnf
          try simp (disch := omega) only [bg_w_id, Int.toNat_natCast, rw_land, sh_land, not_true_eq_false]
          refine s_placesOf (d + 1) _ _ _ ?_
          conv => whnf
          iterate 3 (refine hX _ ?_; conv => whnf)
          try simp only [kc0, kc1, kc2, kc3, kc4, kc5, kc6, kc7, kc8, kc9, kc10, kc11, kc12, kc13, kc14, kc15, kc16, kc17, kc18, kc19, kc20, kc21, kc22, kc23, kc24, kc25, kc26, kc27, kc28, kc29, kc30, kc31, kc32, kc33]
          refine ih _ _ ?_ ?_ ?_ (Or.inr ?_)
          · intro k h38 h40
            first | exact hf k h38 h40 | (rw [bg_up_ne h38, bg_up_ne h38]; exact hf k h38 h40)
          · intro p hp
            first | exact hb p hp | (rw [bg_up_ne (by omega), bg_up_ne (by omega)]; exact hb p hp)
          · rw [ew]
            first | (rw [if_pos q76, bg_up_nj (by omega), bg_up_self]) | (rw [if_neg (by omega)]; exact e1)
          · rw [ew]
            first | (rw [if_pos q76, bg_up_self]) | (rw [if_neg (by omega)]; exact e2.resolve_left (by omega))
  have l1 : ∀ i, i ≤ 12 → ∀ (h' : bg_G), (∀ k, k ≠ 38 → k ≠ 40 → h' k = h k) → (∀ p : Nat, p < i → h' 40 p = brC h held one p) → X (3, [oR 38, oR 22, oI held, oI one, oI (i : Int), none], [], (bg_SH n, h'), (0, 0)) := by
    refine lp_up 12 _ ?_ (fun i hi ih => ?_)
    · intro h' hf hb
      iterate 2 (refine hX _ ?_; conv => whnf)
      refine hX _ ?_; conv => whnf
      refine ⟨fun q7 => ?_, fun q7 => ?_⟩
      · try simp (disch := omega) only [bg_w_id, Int.toNat_natCast, rw_land, sh_land, not_true_eq_false, kc0, kc1, kc2, kc3, kc4, kc5, kc6, kc7, kc8, kc9, kc10, kc11, kc12, kc13, kc14, kc15, kc16, kc17, kc18, kc19, kc20, kc21, kc22, kc23, kc24, kc25, kc26, kc27, kc28, kc29, kc30, kc31, kc32, kc33] at q7
        iterate 5 (refine hX _ ?_; conv => whnf)
        try simp only [kc0, kc1, kc2, kc3, kc4, kc5, kc6, kc7, kc8, kc9, kc10, kc11, kc12, kc13, kc14, kc15, kc16, kc17, kc18, kc19, kc20, kc21, kc22, kc23, kc24, kc25, kc26, kc27, kc28, kc29, kc30, kc31, kc32, kc33]
        refine l2 0 (by omega) _ _ ?_ ?_ ?_ (Or.inl rfl)
        · intro k h38 h40
          rw [bg_up_ne h38]
          exact hf k h38 h40
        · intro p hp
          rw [bg_up_ne (by omega)]
          exact hb p hp
        · rw [bg_up_self]; rfl
      · exfalso
        (try simp (disch := omega) only [bg_w_id, Int.toNat_natCast, rw_land, sh_land, not_true_eq_false, kc0, kc1, kc2, kc3, kc4, kc5, kc6, kc7, kc8, kc9, kc10, kc11, kc12, kc13, kc14, kc15, kc16, kc17, kc18, kc19, kc20, kc21, kc22, kc23, kc24, kc25, kc26, kc27, kc28, kc29, kc30, kc31, kc32, kc33] at q7) <;> (omega)
    · intro h' hf hb
      iterate 2 (refine hX _ ?_; conv => whnf)
      refine hX _ ?_; conv => whnf
      refine ⟨fun q7 => ?_, fun q7 => ?_⟩
      · exfalso
        (try simp (disch := omega) only [bg_w_id, Int.toNat_natCast, rw_land, sh_land, not_true_eq_false, kc0, kc1, kc2, kc3, kc4, kc5, kc6, kc7, kc8, kc9, kc10, kc11, kc12, kc13, kc14, kc15, kc16, kc17, kc18, kc19, kc20, kc21, kc22, kc23, kc24, kc25, kc26, kc27, kc28, kc29, kc30, kc31, kc32, kc33] at q7) <;> (omega)
      · try simp (disch := omega) only [bg_w_id, Int.toNat_natCast, rw_land, sh_land, not_true_eq_false, kc0, kc1, kc2, kc3, kc4, kc5, kc6, kc7, kc8, kc9, kc10, kc11, kc12, kc13, kc14, kc15, kc16, kc17, kc18, kc19, kc20, kc21, kc22, kc23, kc24, kc25, kc26, kc27, kc28, kc29, kc30, kc31, kc32, kc33] at q7
        iterate 8 (refine hX _ ?_; conv => whnf)
        refine hX _ ?_; conv => whnf
        refine ⟨fun q23 => ?_, fun q23 => ?_⟩
        · try simp (disch := omega) only [bg_w_id, Int.toNat_natCast, rw_land, sh_land, not_true_eq_false, kc0, kc1, kc2, kc3, kc4, kc5, kc6, kc7, kc8, kc9, kc10, kc11, kc12, kc13, kc14, kc15, kc16, kc17, kc18, kc19, kc20, kc21, kc22, kc23, kc24, kc25, kc26, kc27, kc28, kc29, kc30, kc31, kc32, kc33] at q23
          refine hX _ ?_; conv => whnf
          refine hX _ ?_; conv => whnf
          try simp (disch := omega) only [bg_w_id, Int.toNat_natCast, rw_land, sh_land, not_true_eq_false]
          refine s_bearing d n i hi _ _ _ _ ?_
          rw [bearC_fr (hf (24 + i) (by omega) (by omega))]
          conv => whnf
          refine hX _ ?_; conv => whnf
          try (simp (disch := omega) only [bg_w_id, Int.toNat_natCast, rw_land, sh_land, not_true_eq_false]; try conv => whnf)
          refine ⟨by first | omega | (simp (disch := omega) only [bg_w_id, Int.toNat_natCast, rw_land, sh_land, not_true_eq_false]; omega), ?_⟩
          iterate 2 (refine hX _ ?_; conv => whnf)
          refine ih _ ?_ ?_
          · intro k h38 h40
            rw [bg_up_ne h40]
            exact hf k h38 h40
          · intro p hp
            by_cases e : p = i
            · subst e
              rw [bg_up_self]
              unfold brC
              first | rw [if_neg q23] | rw [if_pos q23]
            · rw [bg_up_nj (by omega)]
              exact hb p (by omega)
        · try simp (disch := omega) only [bg_w_id, Int.toNat_natCast, rw_land, sh_land, not_true_eq_false, kc0, kc1, kc2, kc3, kc4, kc5, kc6, kc7, kc8, kc9, kc10, kc11, kc12, kc13, kc14, kc15, kc16, kc17, kc18, kc19, kc20, kc21, kc22, kc23, kc24, kc25, kc26, kc27, kc28, kc29, kc30, kc31, kc32, kc33] at q23
          iterate 2 (refine hX _ ?_; conv => whnf)
          refine hX _ ?_; conv => whnf
          try simp (disch := omega) only [bg_w_id, Int.toNat_natCast, rw_land, sh_land, not_true_eq_false]
          refine s_bearing d n i hi _ _ _ _ ?_
          rw [bearC_fr (hf (24 + i) (by omega) (by omega))]
          conv => whnf
          refine hX _ ?_; conv => whnf
          try (simp (disch := omega) only [bg_w_id, Int.toNat_natCast, rw_land, sh_land, not_true_eq_false]; try conv => whnf)
          refine ⟨by first | omega | (simp (disch := omega) only [bg_w_id, Int.toNat_natCast, rw_land, sh_land, not_true_eq_false]; omega), ?_⟩
          iterate 2 (refine hX _ ?_; conv => whnf)
          refine ih _ ?_ ?_
          · intro k h38 h40
            rw [bg_up_ne h40]
            exact hf k h38 h40
          · intro p hp
            by_cases e : p = i
            · subst e
              rw [bg_up_self]
              unfold brC
              first | rw [if_neg q23] | rw [if_pos q23]
            · rw [bg_up_nj (by omega)]
              exact hb p (by omega)
  iterate 2 (refine hX _ ?_; conv => whnf)
  exact l1 0 (by omega) h (fun _ _ _ => rfl) (fun p hp => absurd hp (by omega))
