/-! the class's game -/
theorem s_fillL (d k m : Nat) (sh : List bg_C) (v : Int) (h : bg_G) (hk : bg_nth sh k = some (11, m, [])) (hm : m ≤ 5000) (Rt : bg_R) (hR : ∀ h' : bg_G, (∀ k', k' ≠ k → h' k' = h k') → (∀ j : Int, 0 ≤ j → j < m → h' k j = v) → Rt none (sh, h')) : bg_Ca bg_MS (d + 1) 189 [vR k, vL v] (sh, h) Rt := by
  refine bg_ca (cd := cd_J7_fill_d0a16) rfl rfl ?_
  intro X hX
  have l1 : ∀ i, i ≤ m → ∀ h' : bg_G, (∀ k', k' ≠ k → h' k' = h k') → (∀ j : Int, 0 ≤ j → j < i → h' k j = v) → X (6, [oR k, oL v, none, oI (i : Int), oI (m : Int)], [], (sh, h'), (0, 0)) := by
    refine lp_up m _ ?_ (fun i hi ih => ?_)
    · intro h' hf hv
      iterate 2 (refine hX _ ?_; conv => whnf)
      refine hX _ ?_; conv => whnf
      refine ⟨fun q9 => ?_, fun q9 => ?_⟩
      · try simp (disch := omega) only [bg_w_id, Int.toNat_natCast, rw_land, sh_land, not_true_eq_false, hk, kc0, kc1, kc2, kc3, kc4, kc5, kc6, kc7, kc8, kc9, kc10, kc11, kc12, kc13, kc14, kc15, kc16, kc17, kc18, kc19, kc20, kc21, kc22, kc23, kc24, kc25, kc26, kc27, kc28, kc29, kc30, kc31, kc32, kc33] at q9
        refine hX _ ?_; conv => whnf
        exact hR h' hf hv
      · exfalso
        (try simp (disch := omega) only [bg_w_id, Int.toNat_natCast, rw_land, sh_land, not_true_eq_false, hk, kc0, kc1, kc2, kc3, kc4, kc5, kc6, kc7, kc8, kc9, kc10, kc11, kc12, kc13, kc14, kc15, kc16, kc17, kc18, kc19, kc20, kc21, kc22, kc23, kc24, kc25, kc26, kc27, kc28, kc29, kc30, kc31, kc32, kc33] at q9) <;> (omega)
    · intro h' hf hv
      iterate 2 (refine hX _ ?_; conv => whnf)
      refine hX _ ?_; conv => whnf
      refine ⟨fun q9 => ?_, fun q9 => ?_⟩
      · exfalso
        (try simp (disch := omega) only [bg_w_id, Int.toNat_natCast, rw_land, sh_land, not_true_eq_false, hk, kc0, kc1, kc2, kc3, kc4, kc5, kc6, kc7, kc8, kc9, kc10, kc11, kc12, kc13, kc14, kc15, kc16, kc17, kc18, kc19, kc20, kc21, kc22, kc23, kc24, kc25, kc26, kc27, kc28, kc29, kc30, kc31, kc32, kc33] at q9) <;> (omega)
      · try simp (disch := omega) only [bg_w_id, Int.toNat_natCast, rw_land, sh_land, not_true_eq_false, hk, kc0, kc1, kc2, kc3, kc4, kc5, kc6, kc7, kc8, kc9, kc10, kc11, kc12, kc13, kc14, kc15, kc16, kc17, kc18, kc19, kc20, kc21, kc22, kc23, kc24, kc25, kc26, kc27, kc28, kc29, kc30, kc31, kc32, kc33] at q9
        iterate 3 (refine hX _ ?_; conv => whnf)
        refine hX _ ?_; conv => whnf
        try (simp (disch := omega) only [bg_w_id, Int.toNat_natCast, rw_land, sh_land, not_true_eq_false, hk]; try conv => whnf)
        refine ⟨by first | omega | (simp (disch := omega) only [bg_w_id, Int.toNat_natCast, rw_land, sh_land, not_true_eq_false, hk]; omega), ?_⟩
        iterate 2 (refine hX _ ?_; conv => whnf)
        refine ih _ ?_ ?_
        · intro k' hk'
          rw [bg_up_ne hk']
          exact hf k' hk'
        · intro j h0 h1
          by_cases e : j = i
          · rw [e, bg_up_self]
          · rw [bg_up_nj e]
            exact hv j h0 (by omega)
  iterate 3 (refine hX _ ?_; conv => whnf)
  refine hX _ ?_; conv => whnf
  try (simp (disch := omega) only [bg_w_id, Int.toNat_natCast, rw_land, sh_land, not_true_eq_false, hk]; try conv => whnf)
  refine hX _ ?_; conv => whnf
  exact l1 0 (by omega) h (fun _ _ => rfl) (fun j h0 h1 => absurd h1 (by omega))
/-- a set of told ones -/
abbrev sub (a g : Nat) : Prop := bg_and (a : Int) (bg_xor (g : Int) (-1)) = 0
theorem s_isSetOf (d a g k : Nat) (ha : a < 16) (hk : k ≤ 4) (H : bg_H) (Rt : bg_R) (hR : Rt (some (.inl (if sub a g ∧ pc 15 a = k then 1 else 0))) H) : bg_Ca bg_MS (d + 2) 18 [vI a, vI g, vI k] H Rt := by
  have eb : bitc (a : Int) = (pc 15 a : Nat) := bitc_pc (by omega)
  have pl := pc_le 15 a
  refine bg_ca (cd := cd_X1_isSetOf) rfl rfl ?_
  intro X hX
  by_cases c1 : sub a g
  · by_cases c2 : pc 15 a = k
    · rw [if_pos ⟨c1, c2⟩] at hR
      iterate 5 (refine hX _ ?_; conv => whnf)
      refine hX _ ?_; conv => whnf
      refine ⟨fun q5 => ?_, fun q5 => ?_⟩
      · exfalso
        (try simp (disch := omega) only [bg_w_id, Int.toNat_natCast, rw_land, sh_land, not_true_eq_false, kc0, kc1, kc2, kc3, kc4, kc5, kc6, kc7, kc8, kc9, kc10, kc11, kc12, kc13, kc14, kc15, kc16, kc17, kc18, kc19, kc20, kc21, kc22, kc23, kc24, kc25, kc26, kc27, kc28, kc29, kc30, kc31, kc32, kc33] at q5) <;> ((try rw [bg_and_w] at q5); exact q5 c1)
      · try simp (disch := omega) only [bg_w_id, Int.toNat_natCast, rw_land, sh_land, not_true_eq_false, kc0, kc1, kc2, kc3, kc4, kc5, kc6, kc7, kc8, kc9, kc10, kc11, kc12, kc13, kc14, kc15, kc16, kc17, kc18, kc19, kc20, kc21, kc22, kc23, kc24, kc25, kc26, kc27, kc28, kc29, kc30, kc31, kc32, kc33] at q5
        refine hX _ ?_; conv => whnf
        refine hX _ ?_; conv => whnf
        try simp (disch := omega) only [bg_w_id, Int.toNat_natCast, rw_land, sh_land, not_true_eq_false]
        refine s_bitCount d _ _ _ ?_
        rw [eb]
        conv => whnf
        refine hX _ ?_; conv => whnf
        refine hX _ ?_; conv => whnf
        refine ⟨fun q13 => ?_, fun q13 => ?_⟩
        · exfalso
          (try simp (disch := omega) only [bg_w_id, Int.toNat_natCast, rw_land, sh_land, not_true_eq_false, kc0, kc1, kc2, kc3, kc4, kc5, kc6, kc7, kc8, kc9, kc10, kc11, kc12, kc13, kc14, kc15, kc16, kc17, kc18, kc19, kc20, kc21, kc22, kc23, kc24, kc25, kc26, kc27, kc28, kc29, kc30, kc31, kc32, kc33] at q13) <;> (omega)
        · try simp (disch := omega) only [bg_w_id, Int.toNat_natCast, rw_land, sh_land, not_true_eq_false, kc0, kc1, kc2, kc3, kc4, kc5, kc6, kc7, kc8, kc9, kc10, kc11, kc12, kc13, kc14, kc15, kc16, kc17, kc18, kc19, kc20, kc21, kc22, kc23, kc24, kc25, kc26, kc27, kc28, kc29, kc30, kc31, kc32, kc33] at q13
          iterate 2 (refine hX _ ?_; conv => whnf)
          refine hX _ ?_; conv => whnf
          exact ⟨by omega, hR⟩
    · rw [if_neg (fun x => c2 x.2)] at hR
      iterate 5 (refine hX _ ?_; conv => whnf)
      refine hX _ ?_; conv => whnf
      refine ⟨fun q5 => ?_, fun q5 => ?_⟩
      · exfalso
        (try simp (disch := omega) only [bg_w_id, Int.toNat_natCast, rw_land, sh_land, not_true_eq_false, kc0, kc1, kc2, kc3, kc4, kc5, kc6, kc7, kc8, kc9, kc10, kc11, kc12, kc13, kc14, kc15, kc16, kc17, kc18, kc19, kc20, kc21, kc22, kc23, kc24, kc25, kc26, kc27, kc28, kc29, kc30, kc31, kc32, kc33] at q5) <;> ((try rw [bg_and_w] at q5); exact q5 c1)
      · try simp (disch := omega) only [bg_w_id, Int.toNat_natCast, rw_land, sh_land, not_true_eq_false, kc0, kc1, kc2, kc3, kc4, kc5, kc6, kc7, kc8, kc9, kc10, kc11, kc12, kc13, kc14, kc15, kc16, kc17, kc18, kc19, kc20, kc21, kc22, kc23, kc24, kc25, kc26, kc27, kc28, kc29, kc30, kc31, kc32, kc33] at q5
        refine hX _ ?_; conv => whnf
        refine hX _ ?_; conv => whnf
        try simp (disch := omega) only [bg_w_id, Int.toNat_natCast, rw_land, sh_land, not_true_eq_false]
        refine s_bitCount d _ _ _ ?_
        rw [eb]
        conv => whnf
        refine hX _ ?_; conv => whnf
        refine hX _ ?_; conv => whnf
        refine ⟨fun q13 => ?_, fun q13 => ?_⟩
        · try simp (disch := omega) only [bg_w_id, Int.toNat_natCast, rw_land, sh_land, not_true_eq_false, kc0, kc1, kc2, kc3, kc4, kc5, kc6, kc7, kc8, kc9, kc10, kc11, kc12, kc13, kc14, kc15, kc16, kc17, kc18, kc19, kc20, kc21, kc22, kc23, kc24, kc25, kc26, kc27, kc28, kc29, kc30, kc31, kc32, kc33] at q13
          refine hX _ ?_; conv => whnf
          refine hX _ ?_; conv => whnf
          exact ⟨by omega, hR⟩
        · exfalso
          (try simp (disch := omega) only [bg_w_id, Int.toNat_natCast, rw_land, sh_land, not_true_eq_false, kc0, kc1, kc2, kc3, kc4, kc5, kc6, kc7, kc8, kc9, kc10, kc11, kc12, kc13, kc14, kc15, kc16, kc17, kc18, kc19, kc20, kc21, kc22, kc23, kc24, kc25, kc26, kc27, kc28, kc29, kc30, kc31, kc32, kc33] at q13) <;> (omega)
  · rw [if_neg (fun x => c1 x.1)] at hR
    iterate 5 (refine hX _ ?_; conv => whnf)
    refine hX _ ?_; conv => whnf
    refine ⟨fun q5 => ?_, fun q5 => ?_⟩
    · try simp (disch := omega) only [bg_w_id, Int.toNat_natCast, rw_land, sh_land, not_true_eq_false, kc0, kc1, kc2, kc3, kc4, kc5, kc6, kc7, kc8, kc9, kc10, kc11, kc12, kc13, kc14, kc15, kc16, kc17, kc18, kc19, kc20, kc21, kc22, kc23, kc24, kc25, kc26, kc27, kc28, kc29, kc30, kc31, kc32, kc33] at q5
      refine hX _ ?_; conv => whnf
      refine hX _ ?_; conv => whnf
      exact ⟨by omega, hR⟩
    · exfalso
      (try simp (disch := omega) only [bg_w_id, Int.toNat_natCast, rw_land, sh_land, not_true_eq_false, kc0, kc1, kc2, kc3, kc4, kc5, kc6, kc7, kc8, kc9, kc10, kc11, kc12, kc13, kc14, kc15, kc16, kc17, kc18, kc19, kc20, kc21, kc22, kc23, kc24, kc25, kc26, kc27, kc28, kc29, kc30, kc31, kc32, kc33] at q5) <;> ((try rw [bg_and_w] at q5); exact c1 q5)
/-- the members of a set of four, in order -/
def ms (s : Nat) : List Nat := (List.range 4).filter (fun i => s.testBit i)
def mb (s i : Nat) : Nat := ((ms s)[i]?).getD 0
theorem ms_len : ∀ s : Nat, s < 16 → (ms s).length = pc 15 s := by decide +kernel
theorem bt_set {s i : Nat} (hs : s < 16) (hi : i < 4) : bt (s : Int) (i : Int) = if s.testBit i then 1 else 0 := bt_tb (by omega) (by omega)
/-- how many members are ahead of i -/
def ah (s i : Nat) : Nat := pc 15 (s % 2 ^ i)
theorem ah_s : ∀ s : Nat, s < 16 → ∀ i : Nat, i < 4 → ah s (i + 1) = ah s i + (if s.testBit i then 1 else 0) ∧ (s.testBit i = true → mb s (ah s i) = i ∧ ah s i < pc 15 s) := by decide +kernel
theorem ah_0 (s : Nat) : ah s 0 = 0 := by
  unfold ah
  rw [Nat.pow_zero, Nat.mod_one]
  exact pc_zero 15
theorem ah_4 : ∀ s : Nat, s < 16 → ah s 4 = pc 15 s := by decide +kernel
theorem mb_s : ∀ s : Nat, s < 16 → ∀ i : Nat, i < pc 15 s → mb s i < 4 ∧ s.testBit (mb s i) = true ∧ ah s (mb s i) = i := by decide +kernel
theorem rw_rst {k : Nat} (h : k < 3) : bg_nth [some 65, some 66, some 67] k = some (some (65 + k)) := by
  match k, h with
  | 0, _ => rfl
  | 1, _ => rfl
  | 2, _ => rfl
  | k + 3, h => exact absurd h (by omega)
theorem sh_rst {n k : Nat} (h : k < 3) : bg_nth (bg_SH n) (65 + k) = some (11, 3, []) := by
  match k, h with
  | 0, _ => rfl
  | 1, _ => rfl
  | 2, _ => rfl
  | k + 3, h => exact absurd h (by omega)
/-- the game's numbers -/
def BR (h : bg_G) (B : Nat → Nat → Int) : Prop := ∀ g c : Nat, g < 4 → c < 4 → h (58 + g) c = B g c ∧ 0 ≤ B g c ∧ B g c ≤ 1000
theorem BR_fr {h h' : bg_G} {B : Nat → Nat → Int} (hb : BR h B) (e : ∀ k, 58 ≤ k → k ≤ 61 → h' k = h k) : BR h' B := fun g c hg hc => by rw [e (58 + g) (by omega) (by omega)]; exact hb g c hg hc
theorem s_fillLine (d n l g s : Nat) (hl : l < 3) (hg : g < 4) (hs : s < 16) (hs3 : pc 15 s ≤ 3) (B : Nat → Nat → Int) (h : bg_G) (hb : BR h B) (Rt : bg_R) (hR : ∀ h' : bg_G, (∀ k, k ≠ 65 + l → h' k = h k) → (∀ j : Nat, j < pc 15 s → h' (65 + l) j = B g (mb s j)) → Rt none (bg_SH n, h')) : bg_Ca bg_MS (d + 1) 23 [vR 56, vI l, vI g, vI s] (bg_SH n, h) Rt := by
  refine bg_ca (cd := cd_X1_fillLine) rfl rfl ?_
  intro X hX
  have l1 : ∀ c, c ≤ 4 → ∀ h' : bg_G, (∀ k, k ≠ 65 + l → h' k = h k) → (∀ j : Nat, j < ah s c → h' (65 + l) j = B g (mb s j)) → X (6, [oR 56, oI (l : Int), oI (g : Int), oI (s : Int), oI (ah s c : Nat), oI (c : Int)], [], (bg_SH n, h'), (0, 0)) := by
    refine lp_up 4 _ ?_ (fun c hc ih => ?_)
    · intro h' f1 f2
      iterate 2 (refine hX _ ?_; conv => whnf)
      refine hX _ ?_; conv => whnf
      refine ⟨fun q9 => ?_, fun q9 => ?_⟩
      · try simp (disch := omega) only [bg_w_id, Int.toNat_natCast, rw_land, sh_land, not_true_eq_false, kc0, kc1, kc2, kc3, kc4, kc5, kc6, kc7, kc8, kc9, kc10, kc11, kc12, kc13, kc14, kc15, kc16, kc17, kc18, kc19, kc20, kc21, kc22, kc23, kc24, kc25, kc26, kc27, kc28, kc29, kc30, kc31, kc32, kc33] at q9
        refine hX _ ?_; conv => whnf
        exact hR h' f1 (by rw [← ah_4 s hs]; exact f2)
      · exfalso
        (try simp (disch := omega) only [bg_w_id, Int.toNat_natCast, rw_land, sh_land, not_true_eq_false, kc0, kc1, kc2, kc3, kc4, kc5, kc6, kc7, kc8, kc9, kc10, kc11, kc12, kc13, kc14, kc15, kc16, kc17, kc18, kc19, kc20, kc21, kc22, kc23, kc24, kc25, kc26, kc27, kc28, kc29, kc30, kc31, kc32, kc33] at q9) <;> (omega)
    · intro h' f1 f2
      have as := ah_s s hs c hc
      have eb := bt_set hs hc
      have ebr : h' (58 + g) (c : Int) = B g c := by rw [f1 _ (by omega)]; exact (hb g c hg hc).1
      have rb := (hb g c hg hc).2
      by_cases c1 : s.testBit c = true
      · rw [if_pos c1] at eb
        obtain ⟨m1, m2⟩ := as.2 c1
        rw [as.1, if_pos c1] at ih
        iterate 2 (refine hX _ ?_; conv => whnf)
        refine hX _ ?_; conv => whnf
        refine ⟨fun q9 => ?_, fun q9 => ?_⟩
        · exfalso
          (try simp (disch := omega) only [bg_w_id, Int.toNat_natCast, rw_land, sh_land, not_true_eq_false, rw_rst, sh_rst, rw_brg, sh_brg, ebr, kc0, kc1, kc2, kc3, kc4, kc5, kc6, kc7, kc8, kc9, kc10, kc11, kc12, kc13, kc14, kc15, kc16, kc17, kc18, kc19, kc20, kc21, kc22, kc23, kc24, kc25, kc26, kc27, kc28, kc29, kc30, kc31, kc32, kc33] at q9) <;> (omega)
        · try simp (disch := omega) only [bg_w_id, Int.toNat_natCast, rw_land, sh_land, not_true_eq_false, rw_rst, sh_rst, rw_brg, sh_brg, ebr, kc0, kc1, kc2, kc3, kc4, kc5, kc6, kc7, kc8, kc9, kc10, kc11, kc12, kc13, kc14, kc15, kc16, kc17, kc18, kc19, kc20, kc21, kc22, kc23, kc24, kc25, kc26, kc27, kc28, kc29, kc30, kc31, kc32, kc33] at q9
          iterate 5 (refine hX _ ?_; conv => whnf)
          refine hX _ ?_; conv => whnf
          refine ⟨fun q18 => ?_, fun q18 => ?_⟩
          · exfalso
            (try simp (disch := omega) only [bg_w_id, Int.toNat_natCast, rw_land, sh_land, not_true_eq_false, rw_rst, sh_rst, rw_brg, sh_brg, ebr, kc0, kc1, kc2, kc3, kc4, kc5, kc6, kc7, kc8, kc9, kc10, kc11, kc12, kc13, kc14, kc15, kc16, kc17, kc18, kc19, kc20, kc21, kc22, kc23, kc24, kc25, kc26, kc27, kc28, kc29, kc30, kc31, kc32, kc33] at q18) <;> (exact absurd ((bt_w _ _).symm.trans q18) (by show ¬ bt (s : Int) (c : Int) = 0; omega))
          · try simp (disch := omega) only [bg_w_id, Int.toNat_natCast, rw_land, sh_land, not_true_eq_false, rw_rst, sh_rst, rw_brg, sh_brg, ebr, kc0, kc1, kc2, kc3, kc4, kc5, kc6, kc7, kc8, kc9, kc10, kc11, kc12, kc13, kc14, kc15, kc16, kc17, kc18, kc19, kc20, kc21, kc22, kc23, kc24, kc25, kc26, kc27, kc28, kc29, kc30, kc31, kc32, kc33] at q18
            iterate 2 (refine hX _ ?_; conv => whnf)
            refine hX _ ?_; conv => whnf
            refine ⟨fun q24 => ?_, fun q24 => ?_⟩
            · exfalso
              (try simp (disch := omega) only [bg_w_id, Int.toNat_natCast, rw_land, sh_land, not_true_eq_false, rw_rst, sh_rst, rw_brg, sh_brg, ebr, kc0, kc1, kc2, kc3, kc4, kc5, kc6, kc7, kc8, kc9, kc10, kc11, kc12, kc13, kc14, kc15, kc16, kc17, kc18, kc19, kc20, kc21, kc22, kc23, kc24, kc25, kc26, kc27, kc28, kc29, kc30, kc31, kc32, kc33] at q24) <;> (omega)
            · try simp (disch := omega) only [bg_w_id, Int.toNat_natCast, rw_land, sh_land, not_true_eq_false, rw_rst, sh_rst, rw_brg, sh_brg, ebr, kc0, kc1, kc2, kc3, kc4, kc5, kc6, kc7, kc8, kc9, kc10, kc11, kc12, kc13, kc14, kc15, kc16, kc17, kc18, kc19, kc20, kc21, kc22, kc23, kc24, kc25, kc26, kc27, kc28, kc29, kc30, kc31, kc32, kc33] at q24
              iterate 3 (refine hX _ ?_; conv => whnf)
              refine hX _ ?_; conv => whnf
              try (simp (disch := omega) only [bg_w_id, Int.toNat_natCast, rw_land, sh_land, not_true_eq_false, rw_rst, sh_rst, rw_brg, sh_brg, ebr]; try conv => whnf)
              refine ⟨by first | omega | (simp (disch := omega) only [bg_w_id, Int.toNat_natCast, rw_land, sh_land, not_true_eq_false, rw_rst, sh_rst, rw_brg, sh_brg, ebr]; omega), ?_⟩
              try (simp (disch := omega) only [bg_w_id, Int.toNat_natCast, rw_land, sh_land, not_true_eq_false, rw_rst, sh_rst, rw_brg, sh_brg, ebr])
              try conv => whnf
              iterate 4 (refine hX _ ?_; conv => whnf)
              refine hX _ ?_; conv => whnf
              try (simp (disch := omega) only [bg_w_id, Int.toNat_natCast, rw_land, sh_land, not_true_eq_false, rw_rst, sh_rst, rw_brg, sh_brg, ebr]; try conv => whnf)
              refine ⟨by first | omega | (simp (disch := omega) only [bg_w_id, Int.toNat_natCast, rw_land, sh_land, not_true_eq_false, rw_rst, sh_rst, rw_brg, sh_brg, ebr]; omega), ?_⟩
              try (simp (disch := omega) only [bg_w_id, Int.toNat_natCast, rw_land, sh_land, not_true_eq_false, rw_rst, sh_rst, rw_brg, sh_brg, ebr])
              try conv => whnf
              refine hX _ ?_; conv => whnf
              refine hX _ ?_; conv => whnf
              try (simp (disch := omega) only [bg_w_id, Int.toNat_natCast, rw_land, sh_land, not_true_eq_false, rw_rst, sh_rst, rw_brg, sh_brg, ebr]; try conv => whnf)
              refine ⟨by first | omega | (simp (disch := omega) only [bg_w_id, Int.toNat_natCast, rw_land, sh_land, not_true_eq_false, rw_rst, sh_rst, rw_brg, sh_brg, ebr]; omega), ?_⟩
              refine hX _ ?_; conv => whnf
              refine hX _ ?_; conv => whnf
              try (simp (disch := omega) only [bg_w_id, Int.toNat_natCast, rw_land, sh_land, not_true_eq_false, rw_rst, sh_rst, rw_brg, sh_brg, ebr]; try conv => whnf)
              refine ⟨by first | omega | (simp (disch := omega) only [bg_w_id, Int.toNat_natCast, rw_land, sh_land, not_true_eq_false, rw_rst, sh_rst, rw_brg, sh_brg, ebr]; omega), ?_⟩
              iterate 3 (refine hX _ ?_; conv => whnf)
              try simp (disch := omega) only [bg_w_id, Int.toNat_natCast, rw_land, sh_land, not_true_eq_false, rw_rst, sh_rst, rw_brg, sh_brg, ebr]
              refine ih _ (fun k hk => ?_) (fun j hj => ?_)
              · rw [bg_up_ne hk]; exact f1 k hk
              · rw [bg_up_at]
                by_cases e : j = ah s c
                · subst e
                  rw [if_pos rfl, m1]
                · rw [if_neg (by omega)]
                  exact f2 j (by omega)
      · rw [if_neg c1] at eb
        rw [as.1, if_neg c1] at ih
        iterate 2 (refine hX _ ?_; conv => whnf)
        refine hX _ ?_; conv => whnf
        refine ⟨fun q9 => ?_, fun q9 => ?_⟩
        · exfalso
          (try simp (disch := omega) only [bg_w_id, Int.toNat_natCast, rw_land, sh_land, not_true_eq_false, kc0, kc1, kc2, kc3, kc4, kc5, kc6, kc7, kc8, kc9, kc10, kc11, kc12, kc13, kc14, kc15, kc16, kc17, kc18, kc19, kc20, kc21, kc22, kc23, kc24, kc25, kc26, kc27, kc28, kc29, kc30, kc31, kc32, kc33] at q9) <;> (omega)
        · try simp (disch := omega) only [bg_w_id, Int.toNat_natCast, rw_land, sh_land, not_true_eq_false, kc0, kc1, kc2, kc3, kc4, kc5, kc6, kc7, kc8, kc9, kc10, kc11, kc12, kc13, kc14, kc15, kc16, kc17, kc18, kc19, kc20, kc21, kc22, kc23, kc24, kc25, kc26, kc27, kc28, kc29, kc30, kc31, kc32, kc33] at q9
          iterate 5 (refine hX _ ?_; conv => whnf)
          refine hX _ ?_; conv => whnf
          refine ⟨fun q18 => ?_, fun q18 => ?_⟩
          · try simp (disch := omega) only [bg_w_id, Int.toNat_natCast, rw_land, sh_land, not_true_eq_false, kc0, kc1, kc2, kc3, kc4, kc5, kc6, kc7, kc8, kc9, kc10, kc11, kc12, kc13, kc14, kc15, kc16, kc17, kc18, kc19, kc20, kc21, kc22, kc23, kc24, kc25, kc26, kc27, kc28, kc29, kc30, kc31, kc32, kc33] at q18
            iterate 2 (refine hX _ ?_; conv => whnf)
            exact ih _ f1 f2
          · exfalso
            (try simp (disch := omega) only [bg_w_id, Int.toNat_natCast, rw_land, sh_land, not_true_eq_false, kc0, kc1, kc2, kc3, kc4, kc5, kc6, kc7, kc8, kc9, kc10, kc11, kc12, kc13, kc14, kc15, kc16, kc17, kc18, kc19, kc20, kc21, kc22, kc23, kc24, kc25, kc26, kc27, kc28, kc29, kc30, kc31, kc32, kc33] at q18) <;> (apply q18; show bg_w (bt (s : Int) (c : Int)) = 0; rw [bt_w]; exact eb)
  iterate 4 (refine hX _ ?_; conv => whnf)
  have := l1 0 (by omega) h (fun _ _ => rfl) (fun j hj => absurd hj (by rw [ah_0]; omega))
  rw [ah_0] at this
  exact this
theorem s_minorOf (d n k : Nat) (hk : k ≤ 3) (R : Nat → Nat → Int) (h : bg_G) (hr : ∀ l j : Nat, l < k → j < k → h (65 + l) j = R l j) (Rt : bg_R) (hR : Rt (some (.inr (.inl (mnr k R)))) (bg_SH n, h)) : bg_Ca bg_MS (d + 1) 24 [vR 56, vI k] (bg_SH n, h) Rt := by
  refine bg_ca (cd := cd_X1_minorOf) rfl rfl ?_
  intro X hX
  match k, hk, hr, hR with
  | 0, _, hr, hR =>
    refine hX _ ?_; conv => whnf
    refine hX _ ?_; conv => whnf
    refine ⟨fun q1_0 => ?_, fun n1_0 => ?_⟩
    · try simp (disch := omega) only [bg_w_id, Int.toNat_natCast, rw_land, sh_land, not_true_eq_false, kc0, kc1, kc2, kc3, kc4, kc5, kc6, kc7, kc8, kc9, kc10, kc11, kc12, kc13, kc14, kc15, kc16, kc17, kc18, kc19, kc20, kc21, kc22, kc23, kc24, kc25, kc26, kc27, kc28, kc29, kc30, kc31, kc32, kc33] at q1_0
      conv => whnf
      refine hX _ ?_; conv => whnf
      refine hX _ ?_; conv => whnf
      exact hR
    try simp (disch := omega) only [bg_w_id, Int.toNat_natCast, rw_land, sh_land, not_true_eq_false, kc0, kc1, kc2, kc3, kc4, kc5, kc6, kc7, kc8, kc9, kc10, kc11, kc12, kc13, kc14, kc15, kc16, kc17, kc18, kc19, kc20, kc21, kc22, kc23, kc24, kc25, kc26, kc27, kc28, kc29, kc30, kc31, kc32, kc33] at n1_0
    conv => whnf
    refine ⟨fun q1_1 => ?_, fun n1_1 => ?_⟩
    · exfalso
      (try simp (disch := omega) only [bg_w_id, Int.toNat_natCast, rw_land, sh_land, not_true_eq_false, kc0, kc1, kc2, kc3, kc4, kc5, kc6, kc7, kc8, kc9, kc10, kc11, kc12, kc13, kc14, kc15, kc16, kc17, kc18, kc19, kc20, kc21, kc22, kc23, kc24, kc25, kc26, kc27, kc28, kc29, kc30, kc31, kc32, kc33] at q1_1) <;> omega
    try simp (disch := omega) only [bg_w_id, Int.toNat_natCast, rw_land, sh_land, not_true_eq_false, kc0, kc1, kc2, kc3, kc4, kc5, kc6, kc7, kc8, kc9, kc10, kc11, kc12, kc13, kc14, kc15, kc16, kc17, kc18, kc19, kc20, kc21, kc22, kc23, kc24, kc25, kc26, kc27, kc28, kc29, kc30, kc31, kc32, kc33] at n1_1
    conv => whnf
    refine ⟨fun q1_2 => ?_, fun n1_2 => ?_⟩
    · exfalso
      (try simp (disch := omega) only [bg_w_id, Int.toNat_natCast, rw_land, sh_land, not_true_eq_false, kc0, kc1, kc2, kc3, kc4, kc5, kc6, kc7, kc8, kc9, kc10, kc11, kc12, kc13, kc14, kc15, kc16, kc17, kc18, kc19, kc20, kc21, kc22, kc23, kc24, kc25, kc26, kc27, kc28, kc29, kc30, kc31, kc32, kc33] at q1_2) <;> omega
    try simp (disch := omega) only [bg_w_id, Int.toNat_natCast, rw_land, sh_land, not_true_eq_false, kc0, kc1, kc2, kc3, kc4, kc5, kc6, kc7, kc8, kc9, kc10, kc11, kc12, kc13, kc14, kc15, kc16, kc17, kc18, kc19, kc20, kc21, kc22, kc23, kc24, kc25, kc26, kc27, kc28, kc29, kc30, kc31, kc32, kc33] at n1_2
    conv => whnf
    exfalso; omega
  | 1, _, hr, hR =>
    have e00 : h 65 0 = R 0 0 := hr 0 0 (by omega) (by omega)
    refine hX _ ?_; conv => whnf
    refine hX _ ?_; conv => whnf
    refine ⟨fun q1_0 => ?_, fun n1_0 => ?_⟩
    · exfalso
      (try simp (disch := omega) only [bg_w_id, Int.toNat_natCast, rw_land, sh_land, not_true_eq_false, e00, kc0, kc1, kc2, kc3, kc4, kc5, kc6, kc7, kc8, kc9, kc10, kc11, kc12, kc13, kc14, kc15, kc16, kc17, kc18, kc19, kc20, kc21, kc22, kc23, kc24, kc25, kc26, kc27, kc28, kc29, kc30, kc31, kc32, kc33] at q1_0) <;> omega
    try simp (disch := omega) only [bg_w_id, Int.toNat_natCast, rw_land, sh_land, not_true_eq_false, e00, kc0, kc1, kc2, kc3, kc4, kc5, kc6, kc7, kc8, kc9, kc10, kc11, kc12, kc13, kc14, kc15, kc16, kc17, kc18, kc19, kc20, kc21, kc22, kc23, kc24, kc25, kc26, kc27, kc28, kc29, kc30, kc31, kc32, kc33] at n1_0
    conv => whnf
    refine ⟨fun q1_1 => ?_, fun n1_1 => ?_⟩
    · try simp (disch := omega) only [bg_w_id, Int.toNat_natCast, rw_land, sh_land, not_true_eq_false, e00, kc0, kc1, kc2, kc3, kc4, kc5, kc6, kc7, kc8, kc9, kc10, kc11, kc12, kc13, kc14, kc15, kc16, kc17, kc18, kc19, kc20, kc21, kc22, kc23, kc24, kc25, kc26, kc27, kc28, kc29, kc30, kc31, kc32, kc33] at q1_1
      conv => whnf
      iterate 3 (refine hX _ ?_; conv => whnf)
      refine hX _ ?_; conv => whnf
      try (simp (disch := omega) only [bg_w_id, Int.toNat_natCast, rw_land, sh_land, not_true_eq_false, e00]; try conv => whnf)
      refine ⟨by first | omega | (simp (disch := omega) only [bg_w_id, Int.toNat_natCast, rw_land, sh_land, not_true_eq_false, e00]; omega), ?_⟩
      try (simp (disch := omega) only [bg_w_id, Int.toNat_natCast, rw_land, sh_land, not_true_eq_false, e00])
      try conv => whnf
      refine hX _ ?_; conv => whnf
      refine hX _ ?_; conv => whnf
      try (simp (disch := omega) only [bg_w_id, Int.toNat_natCast, rw_land, sh_land, not_true_eq_false, e00]; try conv => whnf)
      refine ⟨by first | omega | (simp (disch := omega) only [bg_w_id, Int.toNat_natCast, rw_land, sh_land, not_true_eq_false, e00]; omega), ?_⟩
      refine hX _ ?_; conv => whnf
      try rw [e00]
      exact hR
    try simp (disch := omega) only [bg_w_id, Int.toNat_natCast, rw_land, sh_land, not_true_eq_false, e00, kc0, kc1, kc2, kc3, kc4, kc5, kc6, kc7, kc8, kc9, kc10, kc11, kc12, kc13, kc14, kc15, kc16, kc17, kc18, kc19, kc20, kc21, kc22, kc23, kc24, kc25, kc26, kc27, kc28, kc29, kc30, kc31, kc32, kc33] at n1_1
    conv => whnf
    refine ⟨fun q1_2 => ?_, fun n1_2 => ?_⟩
    · exfalso
      (try simp (disch := omega) only [bg_w_id, Int.toNat_natCast, rw_land, sh_land, not_true_eq_false, e00, kc0, kc1, kc2, kc3, kc4, kc5, kc6, kc7, kc8, kc9, kc10, kc11, kc12, kc13, kc14, kc15, kc16, kc17, kc18, kc19, kc20, kc21, kc22, kc23, kc24, kc25, kc26, kc27, kc28, kc29, kc30, kc31, kc32, kc33] at q1_2) <;> omega
    try simp (disch := omega) only [bg_w_id, Int.toNat_natCast, rw_land, sh_land, not_true_eq_false, e00, kc0, kc1, kc2, kc3, kc4, kc5, kc6, kc7, kc8, kc9, kc10, kc11, kc12, kc13, kc14, kc15, kc16, kc17, kc18, kc19, kc20, kc21, kc22, kc23, kc24, kc25, kc26, kc27, kc28, kc29, kc30, kc31, kc32, kc33] at n1_2
    conv => whnf
    exfalso; omega
  | 2, _, hr, hR =>
    have e00 : h 65 0 = R 0 0 := hr 0 0 (by omega) (by omega)
    have e01 : h 65 1 = R 0 1 := hr 0 1 (by omega) (by omega)
    have e10 : h 66 0 = R 1 0 := hr 1 0 (by omega) (by omega)
    have e11 : h 66 1 = R 1 1 := hr 1 1 (by omega) (by omega)
    refine hX _ ?_; conv => whnf
    refine hX _ ?_; conv => whnf
    refine ⟨fun q1_0 => ?_, fun n1_0 => ?_⟩
    · exfalso
      (try simp (disch := omega) only [bg_w_id, Int.toNat_natCast, rw_land, sh_land, not_true_eq_false, e00, e01, e10, e11, kc0, kc1, kc2, kc3, kc4, kc5, kc6, kc7, kc8, kc9, kc10, kc11, kc12, kc13, kc14, kc15, kc16, kc17, kc18, kc19, kc20, kc21, kc22, kc23, kc24, kc25, kc26, kc27, kc28, kc29, kc30, kc31, kc32, kc33] at q1_0) <;> omega
    try simp (disch := omega) only [bg_w_id, Int.toNat_natCast, rw_land, sh_land, not_true_eq_false, e00, e01, e10, e11, kc0, kc1, kc2, kc3, kc4, kc5, kc6, kc7, kc8, kc9, kc10, kc11, kc12, kc13, kc14, kc15, kc16, kc17, kc18, kc19, kc20, kc21, kc22, kc23, kc24, kc25, kc26, kc27, kc28, kc29, kc30, kc31, kc32, kc33] at n1_0
    conv => whnf
    refine ⟨fun q1_1 => ?_, fun n1_1 => ?_⟩
    · exfalso
      (try simp (disch := omega) only [bg_w_id, Int.toNat_natCast, rw_land, sh_land, not_true_eq_false, e00, e01, e10, e11, kc0, kc1, kc2, kc3, kc4, kc5, kc6, kc7, kc8, kc9, kc10, kc11, kc12, kc13, kc14, kc15, kc16, kc17, kc18, kc19, kc20, kc21, kc22, kc23, kc24, kc25, kc26, kc27, kc28, kc29, kc30, kc31, kc32, kc33] at q1_1) <;> omega
    try simp (disch := omega) only [bg_w_id, Int.toNat_natCast, rw_land, sh_land, not_true_eq_false, e00, e01, e10, e11, kc0, kc1, kc2, kc3, kc4, kc5, kc6, kc7, kc8, kc9, kc10, kc11, kc12, kc13, kc14, kc15, kc16, kc17, kc18, kc19, kc20, kc21, kc22, kc23, kc24, kc25, kc26, kc27, kc28, kc29, kc30, kc31, kc32, kc33] at n1_1
    conv => whnf
    refine ⟨fun q1_2 => ?_, fun n1_2 => ?_⟩
    · try simp (disch := omega) only [bg_w_id, Int.toNat_natCast, rw_land, sh_land, not_true_eq_false, e00, e01, e10, e11, kc0, kc1, kc2, kc3, kc4, kc5, kc6, kc7, kc8, kc9, kc10, kc11, kc12, kc13, kc14, kc15, kc16, kc17, kc18, kc19, kc20, kc21, kc22, kc23, kc24, kc25, kc26, kc27, kc28, kc29, kc30, kc31, kc32, kc33] at q1_2
      conv => whnf
      iterate 3 (refine hX _ ?_; conv => whnf)
      refine hX _ ?_; conv => whnf
      try (simp (disch := omega) only [bg_w_id, Int.toNat_natCast, rw_land, sh_land, not_true_eq_false, e00, e01, e10, e11]; try conv => whnf)
      refine ⟨by first | omega | (simp (disch := omega) only [bg_w_id, Int.toNat_natCast, rw_land, sh_land, not_true_eq_false, e00, e01, e10, e11]; omega), ?_⟩
      try (simp (disch := omega) only [bg_w_id, Int.toNat_natCast, rw_land, sh_land, not_true_eq_false, e00, e01, e10, e11])
      try conv => whnf
      refine hX _ ?_; conv => whnf
      refine hX _ ?_; conv => whnf
      try (simp (disch := omega) only [bg_w_id, Int.toNat_natCast, rw_land, sh_land, not_true_eq_false, e00, e01, e10, e11]; try conv => whnf)
      refine ⟨by first | omega | (simp (disch := omega) only [bg_w_id, Int.toNat_natCast, rw_land, sh_land, not_true_eq_false, e00, e01, e10, e11]; omega), ?_⟩
      iterate 3 (refine hX _ ?_; conv => whnf)
      refine hX _ ?_; conv => whnf
      try (simp (disch := omega) only [bg_w_id, Int.toNat_natCast, rw_land, sh_land, not_true_eq_false, e00, e01, e10, e11]; try conv => whnf)
      refine ⟨by first | omega | (simp (disch := omega) only [bg_w_id, Int.toNat_natCast, rw_land, sh_land, not_true_eq_false, e00, e01, e10, e11]; omega), ?_⟩
      try (simp (disch := omega) only [bg_w_id, Int.toNat_natCast, rw_land, sh_land, not_true_eq_false, e00, e01, e10, e11])
      try conv => whnf
      refine hX _ ?_; conv => whnf
      refine hX _ ?_; conv => whnf
      try (simp (disch := omega) only [bg_w_id, Int.toNat_natCast, rw_land, sh_land, not_true_eq_false, e00, e01, e10, e11]; try conv => whnf)
      refine ⟨by first | omega | (simp (disch := omega) only [bg_w_id, Int.toNat_natCast, rw_land, sh_land, not_true_eq_false, e00, e01, e10, e11]; omega), ?_⟩
      iterate 4 (refine hX _ ?_; conv => whnf)
      refine hX _ ?_; conv => whnf
      try (simp (disch := omega) only [bg_w_id, Int.toNat_natCast, rw_land, sh_land, not_true_eq_false, e00, e01, e10, e11]; try conv => whnf)
      refine ⟨by first | omega | (simp (disch := omega) only [bg_w_id, Int.toNat_natCast, rw_land, sh_land, not_true_eq_false, e00, e01, e10, e11]; omega), ?_⟩
      try (simp (disch := omega) only [bg_w_id, Int.toNat_natCast, rw_land, sh_land, not_true_eq_false, e00, e01, e10, e11])
      try conv => whnf
      refine hX _ ?_; conv => whnf
      refine hX _ ?_; conv => whnf
      try (simp (disch := omega) only [bg_w_id, Int.toNat_natCast, rw_land, sh_land, not_true_eq_false, e00, e01, e10, e11]; try conv => whnf)
      refine ⟨by first | omega | (simp (disch := omega) only [bg_w_id, Int.toNat_natCast, rw_land, sh_land, not_true_eq_false, e00, e01, e10, e11]; omega), ?_⟩
      iterate 3 (refine hX _ ?_; conv => whnf)
      refine hX _ ?_; conv => whnf
      try (simp (disch := omega) only [bg_w_id, Int.toNat_natCast, rw_land, sh_land, not_true_eq_false, e00, e01, e10, e11]; try conv => whnf)
      refine ⟨by first | omega | (simp (disch := omega) only [bg_w_id, Int.toNat_natCast, rw_land, sh_land, not_true_eq_false, e00, e01, e10, e11]; omega), ?_⟩
      try (simp (disch := omega) only [bg_w_id, Int.toNat_natCast, rw_land, sh_land, not_true_eq_false, e00, e01, e10, e11])
      try conv => whnf
      refine hX _ ?_; conv => whnf
      refine hX _ ?_; conv => whnf
      try (simp (disch := omega) only [bg_w_id, Int.toNat_natCast, rw_land, sh_land, not_true_eq_false, e00, e01, e10, e11]; try conv => whnf)
      refine ⟨by first | omega | (simp (disch := omega) only [bg_w_id, Int.toNat_natCast, rw_land, sh_land, not_true_eq_false, e00, e01, e10, e11]; omega), ?_⟩
      iterate 2 (refine hX _ ?_; conv => whnf)
      refine hX _ ?_; conv => whnf
      try simp only [e00, e01, e10, e11]
      exact hR
    try simp (disch := omega) only [bg_w_id, Int.toNat_natCast, rw_land, sh_land, not_true_eq_false, e00, e01, e10, e11, kc0, kc1, kc2, kc3, kc4, kc5, kc6, kc7, kc8, kc9, kc10, kc11, kc12, kc13, kc14, kc15, kc16, kc17, kc18, kc19, kc20, kc21, kc22, kc23, kc24, kc25, kc26, kc27, kc28, kc29, kc30, kc31, kc32, kc33] at n1_2
    conv => whnf
    exfalso; omega
  | 3, _, hr, hR =>
    have e00 : h 65 0 = R 0 0 := hr 0 0 (by omega) (by omega)
    have e01 : h 65 1 = R 0 1 := hr 0 1 (by omega) (by omega)
    have e02 : h 65 2 = R 0 2 := hr 0 2 (by omega) (by omega)
    have e10 : h 66 0 = R 1 0 := hr 1 0 (by omega) (by omega)
    have e11 : h 66 1 = R 1 1 := hr 1 1 (by omega) (by omega)
    have e12 : h 66 2 = R 1 2 := hr 1 2 (by omega) (by omega)
    have e20 : h 67 0 = R 2 0 := hr 2 0 (by omega) (by omega)
    have e21 : h 67 1 = R 2 1 := hr 2 1 (by omega) (by omega)
    have e22 : h 67 2 = R 2 2 := hr 2 2 (by omega) (by omega)
    refine hX _ ?_; conv => whnf
    refine hX _ ?_; conv => whnf
    refine ⟨fun q1_0 => ?_, fun n1_0 => ?_⟩
    · exfalso
      (try simp (disch := omega) only [bg_w_id, Int.toNat_natCast, rw_land, sh_land, not_true_eq_false, e00, e01, e02, e10, e11, e12, e20, e21, e22, kc0, kc1, kc2, kc3, kc4, kc5, kc6, kc7, kc8, kc9, kc10, kc11, kc12, kc13, kc14, kc15, kc16, kc17, kc18, kc19, kc20, kc21, kc22, kc23, kc24, kc25, kc26, kc27, kc28, kc29, kc30, kc31, kc32, kc33] at q1_0) <;> omega
    try simp (disch := omega) only [bg_w_id, Int.toNat_natCast, rw_land, sh_land, not_true_eq_false, e00, e01, e02, e10, e11, e12, e20, e21, e22, kc0, kc1, kc2, kc3, kc4, kc5, kc6, kc7, kc8, kc9, kc10, kc11, kc12, kc13, kc14, kc15, kc16, kc17, kc18, kc19, kc20, kc21, kc22, kc23, kc24, kc25, kc26, kc27, kc28, kc29, kc30, kc31, kc32, kc33] at n1_0
    conv => whnf
    refine ⟨fun q1_1 => ?_, fun n1_1 => ?_⟩
    · exfalso
      (try simp (disch := omega) only [bg_w_id, Int.toNat_natCast, rw_land, sh_land, not_true_eq_false, e00, e01, e02, e10, e11, e12, e20, e21, e22, kc0, kc1, kc2, kc3, kc4, kc5, kc6, kc7, kc8, kc9, kc10, kc11, kc12, kc13, kc14, kc15, kc16, kc17, kc18, kc19, kc20, kc21, kc22, kc23, kc24, kc25, kc26, kc27, kc28, kc29, kc30, kc31, kc32, kc33] at q1_1) <;> omega
    try simp (disch := omega) only [bg_w_id, Int.toNat_natCast, rw_land, sh_land, not_true_eq_false, e00, e01, e02, e10, e11, e12, e20, e21, e22, kc0, kc1, kc2, kc3, kc4, kc5, kc6, kc7, kc8, kc9, kc10, kc11, kc12, kc13, kc14, kc15, kc16, kc17, kc18, kc19, kc20, kc21, kc22, kc23, kc24, kc25, kc26, kc27, kc28, kc29, kc30, kc31, kc32, kc33] at n1_1
    conv => whnf
    refine ⟨fun q1_2 => ?_, fun n1_2 => ?_⟩
    · exfalso
      (try simp (disch := omega) only [bg_w_id, Int.toNat_natCast, rw_land, sh_land, not_true_eq_false, e00, e01, e02, e10, e11, e12, e20, e21, e22, kc0, kc1, kc2, kc3, kc4, kc5, kc6, kc7, kc8, kc9, kc10, kc11, kc12, kc13, kc14, kc15, kc16, kc17, kc18, kc19, kc20, kc21, kc22, kc23, kc24, kc25, kc26, kc27, kc28, kc29, kc30, kc31, kc32, kc33] at q1_2) <;> omega
    try simp (disch := omega) only [bg_w_id, Int.toNat_natCast, rw_land, sh_land, not_true_eq_false, e00, e01, e02, e10, e11, e12, e20, e21, e22, kc0, kc1, kc2, kc3, kc4, kc5, kc6, kc7, kc8, kc9, kc10, kc11, kc12, kc13, kc14, kc15, kc16, kc17, kc18, kc19, kc20, kc21, kc22, kc23, kc24, kc25, kc26, kc27, kc28, kc29, kc30, kc31, kc32, kc33] at n1_2
    conv => whnf
    iterate 3 (refine hX _ ?_; conv => whnf)
    refine hX _ ?_; conv => whnf
    try (simp (disch := omega) only [bg_w_id, Int.toNat_natCast, rw_land, sh_land, not_true_eq_false, e00, e01, e02, e10, e11, e12, e20, e21, e22]; try conv => whnf)
    refine ⟨by first | omega | (simp (disch := omega) only [bg_w_id, Int.toNat_natCast, rw_land, sh_land, not_true_eq_false, e00, e01, e02, e10, e11, e12, e20, e21, e22]; omega), ?_⟩
    try (simp (disch := omega) only [bg_w_id, Int.toNat_natCast, rw_land, sh_land, not_true_eq_false, e00, e01, e02, e10, e11, e12, e20, e21, e22])
    try conv => whnf
    refine hX _ ?_; conv => whnf
    refine hX _ ?_; conv => whnf
    try (simp (disch := omega) only [bg_w_id, Int.toNat_natCast, rw_land, sh_land, not_true_eq_false, e00, e01, e02, e10, e11, e12, e20, e21, e22]; try conv => whnf)
    refine ⟨by first | omega | (simp (disch := omega) only [bg_w_id, Int.toNat_natCast, rw_land, sh_land, not_true_eq_false, e00, e01, e02, e10, e11, e12, e20, e21, e22]; omega), ?_⟩
    iterate 3 (refine hX _ ?_; conv => whnf)
    refine hX _ ?_; conv => whnf
    try (simp (disch := omega) only [bg_w_id, Int.toNat_natCast, rw_land, sh_land, not_true_eq_false, e00, e01, e02, e10, e11, e12, e20, e21, e22]; try conv => whnf)
    refine ⟨by first | omega | (simp (disch := omega) only [bg_w_id, Int.toNat_natCast, rw_land, sh_land, not_true_eq_false, e00, e01, e02, e10, e11, e12, e20, e21, e22]; omega), ?_⟩
    try (simp (disch := omega) only [bg_w_id, Int.toNat_natCast, rw_land, sh_land, not_true_eq_false, e00, e01, e02, e10, e11, e12, e20, e21, e22])
    try conv => whnf
    refine hX _ ?_; conv => whnf
    refine hX _ ?_; conv => whnf
    try (simp (disch := omega) only [bg_w_id, Int.toNat_natCast, rw_land, sh_land, not_true_eq_false, e00, e01, e02, e10, e11, e12, e20, e21, e22]; try conv => whnf)
    refine ⟨by first | omega | (simp (disch := omega) only [bg_w_id, Int.toNat_natCast, rw_land, sh_land, not_true_eq_false, e00, e01, e02, e10, e11, e12, e20, e21, e22]; omega), ?_⟩
    iterate 3 (refine hX _ ?_; conv => whnf)
    refine hX _ ?_; conv => whnf
    try (simp (disch := omega) only [bg_w_id, Int.toNat_natCast, rw_land, sh_land, not_true_eq_false, e00, e01, e02, e10, e11, e12, e20, e21, e22]; try conv => whnf)
    refine ⟨by first | omega | (simp (disch := omega) only [bg_w_id, Int.toNat_natCast, rw_land, sh_land, not_true_eq_false, e00, e01, e02, e10, e11, e12, e20, e21, e22]; omega), ?_⟩
    try (simp (disch := omega) only [bg_w_id, Int.toNat_natCast, rw_land, sh_land, not_true_eq_false, e00, e01, e02, e10, e11, e12, e20, e21, e22])
    try conv => whnf
    refine hX _ ?_; conv => whnf
    refine hX _ ?_; conv => whnf
    try (simp (disch := omega) only [bg_w_id, Int.toNat_natCast, rw_land, sh_land, not_true_eq_false, e00, e01, e02, e10, e11, e12, e20, e21, e22]; try conv => whnf)
    refine ⟨by first | omega | (simp (disch := omega) only [bg_w_id, Int.toNat_natCast, rw_land, sh_land, not_true_eq_false, e00, e01, e02, e10, e11, e12, e20, e21, e22]; omega), ?_⟩
    iterate 4 (refine hX _ ?_; conv => whnf)
    refine hX _ ?_; conv => whnf
    try (simp (disch := omega) only [bg_w_id, Int.toNat_natCast, rw_land, sh_land, not_true_eq_false, e00, e01, e02, e10, e11, e12, e20, e21, e22]; try conv => whnf)
    refine ⟨by first | omega | (simp (disch := omega) only [bg_w_id, Int.toNat_natCast, rw_land, sh_land, not_true_eq_false, e00, e01, e02, e10, e11, e12, e20, e21, e22]; omega), ?_⟩
    try (simp (disch := omega) only [bg_w_id, Int.toNat_natCast, rw_land, sh_land, not_true_eq_false, e00, e01, e02, e10, e11, e12, e20, e21, e22])
    try conv => whnf
    refine hX _ ?_; conv => whnf
    refine hX _ ?_; conv => whnf
    try (simp (disch := omega) only [bg_w_id, Int.toNat_natCast, rw_land, sh_land, not_true_eq_false, e00, e01, e02, e10, e11, e12, e20, e21, e22]; try conv => whnf)
    refine ⟨by first | omega | (simp (disch := omega) only [bg_w_id, Int.toNat_natCast, rw_land, sh_land, not_true_eq_false, e00, e01, e02, e10, e11, e12, e20, e21, e22]; omega), ?_⟩
    iterate 3 (refine hX _ ?_; conv => whnf)
    refine hX _ ?_; conv => whnf
    try (simp (disch := omega) only [bg_w_id, Int.toNat_natCast, rw_land, sh_land, not_true_eq_false, e00, e01, e02, e10, e11, e12, e20, e21, e22]; try conv => whnf)
    refine ⟨by first | omega | (simp (disch := omega) only [bg_w_id, Int.toNat_natCast, rw_land, sh_land, not_true_eq_false, e00, e01, e02, e10, e11, e12, e20, e21, e22]; omega), ?_⟩
    try (simp (disch := omega) only [bg_w_id, Int.toNat_natCast, rw_land, sh_land, not_true_eq_false, e00, e01, e02, e10, e11, e12, e20, e21, e22])
    try conv => whnf
    refine hX _ ?_; conv => whnf
    refine hX _ ?_; conv => whnf
    try (simp (disch := omega) only [bg_w_id, Int.toNat_natCast, rw_land, sh_land, not_true_eq_false, e00, e01, e02, e10, e11, e12, e20, e21, e22]; try conv => whnf)
    refine ⟨by first | omega | (simp (disch := omega) only [bg_w_id, Int.toNat_natCast, rw_land, sh_land, not_true_eq_false, e00, e01, e02, e10, e11, e12, e20, e21, e22]; omega), ?_⟩
    iterate 6 (refine hX _ ?_; conv => whnf)
    refine hX _ ?_; conv => whnf
    try (simp (disch := omega) only [bg_w_id, Int.toNat_natCast, rw_land, sh_land, not_true_eq_false, e00, e01, e02, e10, e11, e12, e20, e21, e22]; try conv => whnf)
    refine ⟨by first | omega | (simp (disch := omega) only [bg_w_id, Int.toNat_natCast, rw_land, sh_land, not_true_eq_false, e00, e01, e02, e10, e11, e12, e20, e21, e22]; omega), ?_⟩
    try (simp (disch := omega) only [bg_w_id, Int.toNat_natCast, rw_land, sh_land, not_true_eq_false, e00, e01, e02, e10, e11, e12, e20, e21, e22])
    try conv => whnf
    refine hX _ ?_; conv => whnf
    refine hX _ ?_; conv => whnf
    try (simp (disch := omega) only [bg_w_id, Int.toNat_natCast, rw_land, sh_land, not_true_eq_false, e00, e01, e02, e10, e11, e12, e20, e21, e22]; try conv => whnf)
    refine ⟨by first | omega | (simp (disch := omega) only [bg_w_id, Int.toNat_natCast, rw_land, sh_land, not_true_eq_false, e00, e01, e02, e10, e11, e12, e20, e21, e22]; omega), ?_⟩
    iterate 3 (refine hX _ ?_; conv => whnf)
    refine hX _ ?_; conv => whnf
    try (simp (disch := omega) only [bg_w_id, Int.toNat_natCast, rw_land, sh_land, not_true_eq_false, e00, e01, e02, e10, e11, e12, e20, e21, e22]; try conv => whnf)
    refine ⟨by first | omega | (simp (disch := omega) only [bg_w_id, Int.toNat_natCast, rw_land, sh_land, not_true_eq_false, e00, e01, e02, e10, e11, e12, e20, e21, e22]; omega), ?_⟩
    try (simp (disch := omega) only [bg_w_id, Int.toNat_natCast, rw_land, sh_land, not_true_eq_false, e00, e01, e02, e10, e11, e12, e20, e21, e22])
    try conv => whnf
    refine hX _ ?_; conv => whnf
    refine hX _ ?_; conv => whnf
    try (simp (disch := omega) only [bg_w_id, Int.toNat_natCast, rw_land, sh_land, not_true_eq_false, e00, e01, e02, e10, e11, e12, e20, e21, e22]; try conv => whnf)
    refine ⟨by first | omega | (simp (disch := omega) only [bg_w_id, Int.toNat_natCast, rw_land, sh_land, not_true_eq_false, e00, e01, e02, e10, e11, e12, e20, e21, e22]; omega), ?_⟩
    iterate 3 (refine hX _ ?_; conv => whnf)
    refine hX _ ?_; conv => whnf
    try (simp (disch := omega) only [bg_w_id, Int.toNat_natCast, rw_land, sh_land, not_true_eq_false, e00, e01, e02, e10, e11, e12, e20, e21, e22]; try conv => whnf)
    refine ⟨by first | omega | (simp (disch := omega) only [bg_w_id, Int.toNat_natCast, rw_land, sh_land, not_true_eq_false, e00, e01, e02, e10, e11, e12, e20, e21, e22]; omega), ?_⟩
    try (simp (disch := omega) only [bg_w_id, Int.toNat_natCast, rw_land, sh_land, not_true_eq_false, e00, e01, e02, e10, e11, e12, e20, e21, e22])
    try conv => whnf
    refine hX _ ?_; conv => whnf
    refine hX _ ?_; conv => whnf
    try (simp (disch := omega) only [bg_w_id, Int.toNat_natCast, rw_land, sh_land, not_true_eq_false, e00, e01, e02, e10, e11, e12, e20, e21, e22]; try conv => whnf)
    refine ⟨by first | omega | (simp (disch := omega) only [bg_w_id, Int.toNat_natCast, rw_land, sh_land, not_true_eq_false, e00, e01, e02, e10, e11, e12, e20, e21, e22]; omega), ?_⟩
    iterate 4 (refine hX _ ?_; conv => whnf)
    refine hX _ ?_; conv => whnf
    try (simp (disch := omega) only [bg_w_id, Int.toNat_natCast, rw_land, sh_land, not_true_eq_false, e00, e01, e02, e10, e11, e12, e20, e21, e22]; try conv => whnf)
    refine ⟨by first | omega | (simp (disch := omega) only [bg_w_id, Int.toNat_natCast, rw_land, sh_land, not_true_eq_false, e00, e01, e02, e10, e11, e12, e20, e21, e22]; omega), ?_⟩
    try (simp (disch := omega) only [bg_w_id, Int.toNat_natCast, rw_land, sh_land, not_true_eq_false, e00, e01, e02, e10, e11, e12, e20, e21, e22])
    try conv => whnf
    refine hX _ ?_; conv => whnf
    refine hX _ ?_; conv => whnf
    try (simp (disch := omega) only [bg_w_id, Int.toNat_natCast, rw_land, sh_land, not_true_eq_false, e00, e01, e02, e10, e11, e12, e20, e21, e22]; try conv => whnf)
    refine ⟨by first | omega | (simp (disch := omega) only [bg_w_id, Int.toNat_natCast, rw_land, sh_land, not_true_eq_false, e00, e01, e02, e10, e11, e12, e20, e21, e22]; omega), ?_⟩
    iterate 3 (refine hX _ ?_; conv => whnf)
    refine hX _ ?_; conv => whnf
    try (simp (disch := omega) only [bg_w_id, Int.toNat_natCast, rw_land, sh_land, not_true_eq_false, e00, e01, e02, e10, e11, e12, e20, e21, e22]; try conv => whnf)
    refine ⟨by first | omega | (simp (disch := omega) only [bg_w_id, Int.toNat_natCast, rw_land, sh_land, not_true_eq_false, e00, e01, e02, e10, e11, e12, e20, e21, e22]; omega), ?_⟩
    try (simp (disch := omega) only [bg_w_id, Int.toNat_natCast, rw_land, sh_land, not_true_eq_false, e00, e01, e02, e10, e11, e12, e20, e21, e22])
    try conv => whnf
    refine hX _ ?_; conv => whnf
    refine hX _ ?_; conv => whnf
    try (simp (disch := omega) only [bg_w_id, Int.toNat_natCast, rw_land, sh_land, not_true_eq_false, e00, e01, e02, e10, e11, e12, e20, e21, e22]; try conv => whnf)
    refine ⟨by first | omega | (simp (disch := omega) only [bg_w_id, Int.toNat_natCast, rw_land, sh_land, not_true_eq_false, e00, e01, e02, e10, e11, e12, e20, e21, e22]; omega), ?_⟩
    iterate 7 (refine hX _ ?_; conv => whnf)
    refine hX _ ?_; conv => whnf
    try (simp (disch := omega) only [bg_w_id, Int.toNat_natCast, rw_land, sh_land, not_true_eq_false, e00, e01, e02, e10, e11, e12, e20, e21, e22]; try conv => whnf)
    refine ⟨by first | omega | (simp (disch := omega) only [bg_w_id, Int.toNat_natCast, rw_land, sh_land, not_true_eq_false, e00, e01, e02, e10, e11, e12, e20, e21, e22]; omega), ?_⟩
    try (simp (disch := omega) only [bg_w_id, Int.toNat_natCast, rw_land, sh_land, not_true_eq_false, e00, e01, e02, e10, e11, e12, e20, e21, e22])
    try conv => whnf
    refine hX _ ?_; conv => whnf
    refine hX _ ?_; conv => whnf
    try (simp (disch := omega) only [bg_w_id, Int.toNat_natCast, rw_land, sh_land, not_true_eq_false, e00, e01, e02, e10, e11, e12, e20, e21, e22]; try conv => whnf)
    refine ⟨by first | omega | (simp (disch := omega) only [bg_w_id, Int.toNat_natCast, rw_land, sh_land, not_true_eq_false, e00, e01, e02, e10, e11, e12, e20, e21, e22]; omega), ?_⟩
    iterate 3 (refine hX _ ?_; conv => whnf)
    refine hX _ ?_; conv => whnf
    try (simp (disch := omega) only [bg_w_id, Int.toNat_natCast, rw_land, sh_land, not_true_eq_false, e00, e01, e02, e10, e11, e12, e20, e21, e22]; try conv => whnf)
    refine ⟨by first | omega | (simp (disch := omega) only [bg_w_id, Int.toNat_natCast, rw_land, sh_land, not_true_eq_false, e00, e01, e02, e10, e11, e12, e20, e21, e22]; omega), ?_⟩
    try (simp (disch := omega) only [bg_w_id, Int.toNat_natCast, rw_land, sh_land, not_true_eq_false, e00, e01, e02, e10, e11, e12, e20, e21, e22])
    try conv => whnf
    refine hX _ ?_; conv => whnf
    refine hX _ ?_; conv => whnf
    try (simp (disch := omega) only [bg_w_id, Int.toNat_natCast, rw_land, sh_land, not_true_eq_false, e00, e01, e02, e10, e11, e12, e20, e21, e22]; try conv => whnf)
    refine ⟨by first | omega | (simp (disch := omega) only [bg_w_id, Int.toNat_natCast, rw_land, sh_land, not_true_eq_false, e00, e01, e02, e10, e11, e12, e20, e21, e22]; omega), ?_⟩
    iterate 3 (refine hX _ ?_; conv => whnf)
    refine hX _ ?_; conv => whnf
    try (simp (disch := omega) only [bg_w_id, Int.toNat_natCast, rw_land, sh_land, not_true_eq_false, e00, e01, e02, e10, e11, e12, e20, e21, e22]; try conv => whnf)
    refine ⟨by first | omega | (simp (disch := omega) only [bg_w_id, Int.toNat_natCast, rw_land, sh_land, not_true_eq_false, e00, e01, e02, e10, e11, e12, e20, e21, e22]; omega), ?_⟩
    try (simp (disch := omega) only [bg_w_id, Int.toNat_natCast, rw_land, sh_land, not_true_eq_false, e00, e01, e02, e10, e11, e12, e20, e21, e22])
    try conv => whnf
    refine hX _ ?_; conv => whnf
    refine hX _ ?_; conv => whnf
    try (simp (disch := omega) only [bg_w_id, Int.toNat_natCast, rw_land, sh_land, not_true_eq_false, e00, e01, e02, e10, e11, e12, e20, e21, e22]; try conv => whnf)
    refine ⟨by first | omega | (simp (disch := omega) only [bg_w_id, Int.toNat_natCast, rw_land, sh_land, not_true_eq_false, e00, e01, e02, e10, e11, e12, e20, e21, e22]; omega), ?_⟩
    iterate 4 (refine hX _ ?_; conv => whnf)
    refine hX _ ?_; conv => whnf
    try (simp (disch := omega) only [bg_w_id, Int.toNat_natCast, rw_land, sh_land, not_true_eq_false, e00, e01, e02, e10, e11, e12, e20, e21, e22]; try conv => whnf)
    refine ⟨by first | omega | (simp (disch := omega) only [bg_w_id, Int.toNat_natCast, rw_land, sh_land, not_true_eq_false, e00, e01, e02, e10, e11, e12, e20, e21, e22]; omega), ?_⟩
    try (simp (disch := omega) only [bg_w_id, Int.toNat_natCast, rw_land, sh_land, not_true_eq_false, e00, e01, e02, e10, e11, e12, e20, e21, e22])
    try conv => whnf
    refine hX _ ?_; conv => whnf
    refine hX _ ?_; conv => whnf
    try (simp (disch := omega) only [bg_w_id, Int.toNat_natCast, rw_land, sh_land, not_true_eq_false, e00, e01, e02, e10, e11, e12, e20, e21, e22]; try conv => whnf)
    refine ⟨by first | omega | (simp (disch := omega) only [bg_w_id, Int.toNat_natCast, rw_land, sh_land, not_true_eq_false, e00, e01, e02, e10, e11, e12, e20, e21, e22]; omega), ?_⟩
    iterate 3 (refine hX _ ?_; conv => whnf)
    refine hX _ ?_; conv => whnf
    try (simp (disch := omega) only [bg_w_id, Int.toNat_natCast, rw_land, sh_land, not_true_eq_false, e00, e01, e02, e10, e11, e12, e20, e21, e22]; try conv => whnf)
    refine ⟨by first | omega | (simp (disch := omega) only [bg_w_id, Int.toNat_natCast, rw_land, sh_land, not_true_eq_false, e00, e01, e02, e10, e11, e12, e20, e21, e22]; omega), ?_⟩
    try (simp (disch := omega) only [bg_w_id, Int.toNat_natCast, rw_land, sh_land, not_true_eq_false, e00, e01, e02, e10, e11, e12, e20, e21, e22])
    try conv => whnf
    refine hX _ ?_; conv => whnf
    refine hX _ ?_; conv => whnf
    try (simp (disch := omega) only [bg_w_id, Int.toNat_natCast, rw_land, sh_land, not_true_eq_false, e00, e01, e02, e10, e11, e12, e20, e21, e22]; try conv => whnf)
    refine ⟨by first | omega | (simp (disch := omega) only [bg_w_id, Int.toNat_natCast, rw_land, sh_land, not_true_eq_false, e00, e01, e02, e10, e11, e12, e20, e21, e22]; omega), ?_⟩
    iterate 4 (refine hX _ ?_; conv => whnf)
    refine hX _ ?_; conv => whnf
    try simp only [e00, e01, e02, e10, e11, e12, e20, e21, e22]
    exact hR
