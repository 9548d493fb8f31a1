/-! Integer.bitCount; nights of the class -/
theorem bn_ushr {a k : Nat} (ha : a < 2147483648) (hk : k < 32) (hs : (Int32.toUInt32 (Int32.ofInt (k : Int)) &&& Int32.toUInt32 31).toBitVec % 32 = BitVec.ofNat 32 k) : bg_ushr a k = ((a / 2 ^ k : Nat) : Int) := by
  refine bv_in ?_ (Nat.lt_of_le_of_lt (Nat.div_le_self _ _) ha)
  show ((BitVec.ofInt 32 (a : Int)) >>> ((Int32.toUInt32 (Int32.ofInt (k : Int)) &&& Int32.toUInt32 31).toBitVec % 32)).toNat = _
  rw [hs, BitVec.ushiftRight_eq', BitVec.toNat_ushiftRight, bv_of, BitVec.toNat_ofNat, BitVec.toNat_ofNat, Nat.mod_eq_of_lt (a := a) (by omega), Nat.mod_eq_of_lt (a := k) (by omega), Nat.shiftRight_eq_div_pow]
def bc1 (x : Int) : Int := x - bg_and (bg_ushr x 1) 1431655765
def bc2 (x : Int) : Int := bg_and x 858993459 + bg_and (bg_ushr x 2) 858993459
def bc3 (x : Int) : Int := bg_and (x + bg_ushr x 4) 252645135
def bc4 (x : Int) : Int := x + bg_ushr x 8
def bc5 (x : Int) : Int := x + bg_ushr x 16
def bitc (x : Int) : Int := bg_and (bc5 (bc4 (bc3 (bc2 (bc1 x))))) 63
theorem s_bitCount (d : Nat) (x : Int) (H : bg_H) (Rt : bg_R) (hR : Rt (some (.inl (bitc x))) H) : bg_Ca bg_MS (d + 1) 188 [vI x] H Rt := by
  refine bg_ca (cd := cd_J6_bitCount_0f7a4) rfl rfl ?_
  intro X hX
  iterate 41 (refine hX _ ?_; conv => whnf)
  refine hX _ ?_; conv => whnf
  exact hR
def bn1 (a : Nat) : Nat := a - (a / 2 &&& 1431655765)
def bn2 (a : Nat) : Nat := (a &&& 858993459) + (a / 4 &&& 858993459)
def bn3 (a : Nat) : Nat := (a + a / 16) &&& 252645135
def bcN (a : Nat) : Nat := let b := bn3 (bn2 (bn1 a)); let c := b + b / 256; (c + c / 65536) &&& 63
theorem bcN_pc : ∀ hi : Nat, hi < 128 → ∀ lo : Nat, lo < 256 → bcN (256 * hi + lo) = pc 15 (256 * hi + lo) := by decide +kernel
theorem bitc_N {a : Nat} (ha : a < 32768) : bitc a = (bcN a : Nat) := by
  have u1 : ∀ x : Nat, x < 2147483648 → bg_ushr x 1 = ((x / 2 : Nat) : Int) := fun x hx => bn_ushr (k := 1) hx (by omega) (by decide +kernel)
  have u2 : ∀ x : Nat, x < 2147483648 → bg_ushr x 2 = ((x / 4 : Nat) : Int) := fun x hx => bn_ushr (k := 2) hx (by omega) (by decide +kernel)
  have u4 : ∀ x : Nat, x < 2147483648 → bg_ushr x 4 = ((x / 16 : Nat) : Int) := fun x hx => bn_ushr (k := 4) hx (by omega) (by decide +kernel)
  have u8 : ∀ x : Nat, x < 2147483648 → bg_ushr x 8 = ((x / 256 : Nat) : Int) := fun x hx => bn_ushr (k := 8) hx (by omega) (by decide +kernel)
  have u16 : ∀ x : Nat, x < 2147483648 → bg_ushr x 16 = ((x / 65536 : Nat) : Int) := fun x hx => bn_ushr (k := 16) hx (by omega) (by decide +kernel)
  have an : ∀ x m : Nat, x < 2147483648 → m < 2147483648 → bg_and x (m : Int) = ((x &&& m : Nat) : Int) := fun x m hx hm => bn_and hx hm
  have l1 : a / 2 &&& 1431655765 ≤ a := Nat.le_trans Nat.and_le_left (Nat.div_le_self _ _)
  have e1 : bc1 a = (bn1 a : Nat) := by
    unfold bc1 bn1
    rw [u1 a (by omega), show (1431655765 : Int) = ((1431655765 : Nat) : Int) from rfl, an _ _ (by omega) (by omega)]
    omega
  have k1 : bn1 a ≤ 32768 := by unfold bn1; omega
  have e2 : ∀ b : Nat, b ≤ 32768 → bc2 b = (bn2 b : Nat) := fun b hb => by
    have hb1 : b &&& 858993459 ≤ b := Nat.and_le_left
    have hb2 : b / 4 &&& 858993459 ≤ b / 4 := Nat.and_le_left
    unfold bc2 bn2
    rw [u2 b (by omega), show (858993459 : Int) = ((858993459 : Nat) : Int) from rfl, an _ _ (by omega) (by omega), an _ _ (by omega) (by omega)]
    omega
  have k2 : ∀ b : Nat, b ≤ 32768 → bn2 b ≤ 65536 := fun b hb => by
    have hb1 : b &&& 858993459 ≤ b := Nat.and_le_left
    have hb2 : b / 4 &&& 858993459 ≤ b / 4 := Nat.and_le_left
    unfold bn2
    omega
  have e3 : ∀ c : Nat, c ≤ 65536 → bc3 c = (bn3 c : Nat) := fun c hc => by
    unfold bc3 bn3
    rw [u4 c (by omega), show (252645135 : Int) = ((252645135 : Nat) : Int) from rfl, show (c : Int) + ((c / 16 : Nat) : Int) = ((c + c / 16 : Nat) : Int) by omega, an _ _ (by omega) (by omega)]
  have k3 : ∀ c : Nat, c ≤ 65536 → bn3 c ≤ 80000 := fun c hc => by
    have : (c + c / 16) &&& 252645135 ≤ c + c / 16 := Nat.and_le_left
    unfold bn3
    omega
  have e4 : ∀ c : Nat, c ≤ 80000 → bc4 c = ((c + c / 256 : Nat) : Int) := fun c hc => by
    unfold bc4
    rw [u8 c (by omega)]
    omega
  have e5 : ∀ c : Nat, c ≤ 90000 → bc5 c = ((c + c / 65536 : Nat) : Int) := fun c hc => by
    unfold bc5
    rw [u16 c (by omega)]
    omega
  unfold bitc
  rw [e1, e2 _ k1, e3 _ (k2 _ k1)]
  have k4 := k3 _ (k2 _ k1)
  rw [e4 _ k4, e5 _ (by omega), show (63 : Int) = ((63 : Nat) : Int) from rfl, an _ _ (by omega) (by omega)]
  rfl
theorem bitc_pc {a : Nat} (ha : a < 32768) : bitc a = (pc 15 a : Nat) := by
  rw [bitc_N ha]
  have := bcN_pc (a / 256) (by omega) (a % 256) (by omega)
  rw [show 256 * (a / 256) + a % 256 = a by omega] at this
  rw [this]
theorem bitc_rg (x : Int) : 0 ≤ bitc x ∧ bitc x < 64 := and63 _
/-- the least of what was before -/
def lbR (al : Bool) (bc cs : Nat → Int) (dd : Int) (g n : Nat) : Int := fo n (fun k a => if (al = true ∨ k ≠ g) ∧ bc k ≤ dd then (if cs k < a then cs k else a) else a) 2147483647
theorem lbR_rg {al : Bool} {bc cs : Nat → Int} {dd : Int} {g : Nat} : ∀ n, (∀ k, k < n → 0 ≤ cs k ∧ cs k ≤ 2147483647) → 0 ≤ lbR al bc cs dd g n ∧ lbR al bc cs dd g n ≤ 2147483647
  | 0, _ => by unfold lbR fo; omega
  | n + 1, h => by
    have ih := lbR_rg (al := al) (bc := bc) (dd := dd) (g := g) n (fun k hk => h k (by omega))
    have := h n (by omega)
    have e : lbR al bc cs dd g (n + 1) = if (al = true ∨ n ≠ g) ∧ bc n ≤ dd then (if cs n < lbR al bc cs dd g n then cs n else lbR al bc cs dd g n) else lbR al bc cs dd g n := rfl
    rw [e]
    split
    · split <;> omega
    · exact ih
theorem lbR_s (al : Bool) (bc cs : Nat → Int) (dd : Int) (g n : Nat) : lbR al bc cs dd g (n + 1) = if (al = true ∨ n ≠ g) ∧ bc n ≤ dd then (if cs n < lbR al bc cs dd g n then cs n else lbR al bc cs dd g n) else lbR al bc cs dd g n := rfl
theorem s_leastBefore (d n g : Nat) (hg : g < 4) (al : Bool) (dd : Int) (hd : 0 ≤ dd ∧ dd ≤ 15) (cs ps : Nat → Int) (h : bg_G) (hp : ∀ k : Nat, k < 4 → h 69 k = ps k) (hc : ∀ k : Nat, k < 4 → h 71 k = cs k ∧ 0 ≤ cs k ∧ cs k ≤ 2147483647) (Rt : bg_R) (hR : Rt (some (.inl (lbR al (fun k => bitc (bg_xor (ps k) (ps g))) cs dd g 4))) (bg_SH n, h)) : bg_Ca bg_MS (d + 2) 61 [vR 68, vI g, vI dd, vI (if al then 1 else 0)] (bg_SH n, h) Rt := by
  obtain ⟨av, hav⟩ : ∃ av : Int, av = (if al then 1 else 0) := ⟨_, rfl⟩
  have av01 : (av = 1 ∧ al = true) ∨ (av = 0 ∧ al = false) := by cases al <;> simp [hav]
  rw [← hav]
  have eg := hp g hg
  refine bg_ca (cd := cd_X5_leastBefore) rfl rfl ?_
  intro X hX
  have l1 : ∀ k, k ≤ 4 → ∀ j6 : Option bg_V, X (7, [oR 68, oI (g : Int), oI dd, oI av, oI (lbR al (fun k => bitc (bg_xor (ps k) (ps g))) cs dd g k), oI (k : Int), j6], [], (bg_SH n, h), (0, 0)) := by
    refine lp_up 4 _ ?_ (fun k hk ih => ?_)
    · intro j6
      iterate 2 (refine hX _ ?_; conv => whnf)
      refine hX _ ?_; conv => whnf
      refine ⟨fun q10 => ?_, fun q10 => ?_⟩
      · try simp (disch := omega) only [bg_w_id, Int.toNat_natCast, rw_land, sh_land, not_true_eq_false, kc0, kc1, kc2, kc3, kc4, kc5, kc6, kc7, kc8, kc9, kc10, kc11, kc12, kc13, kc14, kc15, kc16, kc17, kc18, kc19, kc20, kc21, kc22, kc23, kc24, kc25, kc26, kc27, kc28, kc29, kc30, kc31, kc32, kc33] at q10
        refine hX _ ?_; conv => whnf
        refine hX _ ?_; conv => whnf
        exact hR
      · exfalso
        (try simp (disch := omega) only [bg_w_id, Int.toNat_natCast, rw_land, sh_land, not_true_eq_false, kc0, kc1, kc2, kc3, kc4, kc5, kc6, kc7, kc8, kc9, kc10, kc11, kc12, kc13, kc14, kc15, kc16, kc17, kc18, kc19, kc20, kc21, kc22, kc23, kc24, kc25, kc26, kc27, kc28, kc29, kc30, kc31, kc32, kc33] at q10) <;> (omega)
    · intro j6
      have ek := hp k hk
      have ck := hc k hk
      have ec := ck.1
      have rb := bitc_rg (bg_xor (ps k) (ps g))
      have rl := lbR_rg (al := al) (bc := fun k => bitc (bg_xor (ps k) (ps g))) (dd := dd) (g := g) (cs := cs) k (fun k' hk' => (hc k' (by omega)).2)
      rw [lbR_s] at ih
      by_cases c1 : al = true ∨ k ≠ g
      · have d41 : X (39, [oR 68, oI (g : Int), oI dd, oI av, oI (lbR al (fun k => bitc (bg_xor (ps k) (ps g))) cs dd g k), oI (k : Int), oI 1], [], (bg_SH n, h), (0, 0)) := by
          by_cases c2 : bitc (bg_xor (ps k) (ps g)) ≤ dd
          · rw [if_pos ⟨c1, c2⟩] at ih
            refine hX _ ?_; conv => whnf
            refine hX _ ?_; conv => whnf
            refine ⟨fun q41 => ?_, fun q41 => ?_⟩
            · exfalso
              (try simp (disch := omega) only [bg_w_id, Int.toNat_natCast, rw_land, sh_land, not_true_eq_false, eg, ek, ec, kc0, kc1, kc2, kc3, kc4, kc5, kc6, kc7, kc8, kc9, kc10, kc11, kc12, kc13, kc14, kc15, kc16, kc17, kc18, kc19, kc20, kc21, kc22, kc23, kc24, kc25, kc26, kc27, kc28, kc29, kc30, kc31, kc32, kc33] at q41) <;> (omega)
            · try simp (disch := omega) only [bg_w_id, Int.toNat_natCast, rw_land, sh_land, not_true_eq_false, eg, ek, ec, kc0, kc1, kc2, kc3, kc4, kc5, kc6, kc7, kc8, kc9, kc10, kc11, kc12, kc13, kc14, kc15, kc16, kc17, kc18, kc19, kc20, kc21, kc22, kc23, kc24, kc25, kc26, kc27, kc28, kc29, kc30, kc31, kc32, kc33] at q41
              iterate 3 (refine hX _ ?_; conv => whnf)
              refine hX _ ?_; conv => whnf
              try (simp (disch := omega) only [bg_w_id, Int.toNat_natCast, rw_land, sh_land, not_true_eq_false, eg, ek, ec]; try conv => whnf)
              refine ⟨by first | omega | (simp (disch := omega) only [bg_w_id, Int.toNat_natCast, rw_land, sh_land, not_true_eq_false, eg, ek, ec]; omega), ?_⟩
              iterate 3 (refine hX _ ?_; conv => whnf)
              refine hX _ ?_; conv => whnf
              try (simp (disch := omega) only [bg_w_id, Int.toNat_natCast, rw_land, sh_land, not_true_eq_false, eg, ek, ec]; try conv => whnf)
              refine ⟨by first | omega | (simp (disch := omega) only [bg_w_id, Int.toNat_natCast, rw_land, sh_land, not_true_eq_false, eg, ek, ec]; omega), ?_⟩
              refine hX _ ?_; conv => whnf
              refine hX _ ?_; conv => whnf
              try simp (disch := omega) only [bg_w_id, Int.toNat_natCast, rw_land, sh_land, not_true_eq_false, eg, ek, ec]
              refine s_bitCount d _ _ _ ?_
              conv => whnf
              refine hX _ ?_; conv => whnf
              refine hX _ ?_; conv => whnf
              refine ⟨fun q62 => ?_, fun q62 => ?_⟩
              · exfalso
                (try simp (disch := omega) only [bg_w_id, Int.toNat_natCast, rw_land, sh_land, not_true_eq_false, eg, ek, ec, kc0, kc1, kc2, kc3, kc4, kc5, kc6, kc7, kc8, kc9, kc10, kc11, kc12, kc13, kc14, kc15, kc16, kc17, kc18, kc19, kc20, kc21, kc22, kc23, kc24, kc25, kc26, kc27, kc28, kc29, kc30, kc31, kc32, kc33] at q62) <;> (omega)
              · try simp (disch := omega) only [bg_w_id, Int.toNat_natCast, rw_land, sh_land, not_true_eq_false, eg, ek, ec, kc0, kc1, kc2, kc3, kc4, kc5, kc6, kc7, kc8, kc9, kc10, kc11, kc12, kc13, kc14, kc15, kc16, kc17, kc18, kc19, kc20, kc21, kc22, kc23, kc24, kc25, kc26, kc27, kc28, kc29, kc30, kc31, kc32, kc33] at q62
                iterate 4 (refine hX _ ?_; conv => whnf)
                refine hX _ ?_; conv => whnf
                try (simp (disch := omega) only [bg_w_id, Int.toNat_natCast, rw_land, sh_land, not_true_eq_false, eg, ek, ec]; try conv => whnf)
                refine ⟨by first | omega | (simp (disch := omega) only [bg_w_id, Int.toNat_natCast, rw_land, sh_land, not_true_eq_false, eg, ek, ec]; omega), ?_⟩
                iterate 4 (refine hX _ ?_; conv => whnf)
                try rw [bg_w_id (by omega) (by omega), bg_w_id (by omega) (by omega)]
                exact ih _
          · rw [if_neg (fun x => c2 x.2)] at ih
            refine hX _ ?_; conv => whnf
            refine hX _ ?_; conv => whnf
            refine ⟨fun q41 => ?_, fun q41 => ?_⟩
            · exfalso
              (try simp (disch := omega) only [bg_w_id, Int.toNat_natCast, rw_land, sh_land, not_true_eq_false, eg, ek, ec, kc0, kc1, kc2, kc3, kc4, kc5, kc6, kc7, kc8, kc9, kc10, kc11, kc12, kc13, kc14, kc15, kc16, kc17, kc18, kc19, kc20, kc21, kc22, kc23, kc24, kc25, kc26, kc27, kc28, kc29, kc30, kc31, kc32, kc33] at q41) <;> (omega)
            · try simp (disch := omega) only [bg_w_id, Int.toNat_natCast, rw_land, sh_land, not_true_eq_false, eg, ek, ec, kc0, kc1, kc2, kc3, kc4, kc5, kc6, kc7, kc8, kc9, kc10, kc11, kc12, kc13, kc14, kc15, kc16, kc17, kc18, kc19, kc20, kc21, kc22, kc23, kc24, kc25, kc26, kc27, kc28, kc29, kc30, kc31, kc32, kc33] at q41
              iterate 3 (refine hX _ ?_; conv => whnf)
              refine hX _ ?_; conv => whnf
              try (simp (disch := omega) only [bg_w_id, Int.toNat_natCast, rw_land, sh_land, not_true_eq_false, eg, ek, ec]; try conv => whnf)
              refine ⟨by first | omega | (simp (disch := omega) only [bg_w_id, Int.toNat_natCast, rw_land, sh_land, not_true_eq_false, eg, ek, ec]; omega), ?_⟩
              iterate 3 (refine hX _ ?_; conv => whnf)
              refine hX _ ?_; conv => whnf
              try (simp (disch := omega) only [bg_w_id, Int.toNat_natCast, rw_land, sh_land, not_true_eq_false, eg, ek, ec]; try conv => whnf)
              refine ⟨by first | omega | (simp (disch := omega) only [bg_w_id, Int.toNat_natCast, rw_land, sh_land, not_true_eq_false, eg, ek, ec]; omega), ?_⟩
              refine hX _ ?_; conv => whnf
              refine hX _ ?_; conv => whnf
              try simp (disch := omega) only [bg_w_id, Int.toNat_natCast, rw_land, sh_land, not_true_eq_false, eg, ek, ec]
              refine s_bitCount d _ _ _ ?_
              conv => whnf
              refine hX _ ?_; conv => whnf
              refine hX _ ?_; conv => whnf
              refine ⟨fun q62 => ?_, fun q62 => ?_⟩
              · try simp (disch := omega) only [bg_w_id, Int.toNat_natCast, rw_land, sh_land, not_true_eq_false, eg, ek, ec, kc0, kc1, kc2, kc3, kc4, kc5, kc6, kc7, kc8, kc9, kc10, kc11, kc12, kc13, kc14, kc15, kc16, kc17, kc18, kc19, kc20, kc21, kc22, kc23, kc24, kc25, kc26, kc27, kc28, kc29, kc30, kc31, kc32, kc33] at q62
                iterate 2 (refine hX _ ?_; conv => whnf)
                exact ih _
              · exfalso
                (try simp (disch := omega) only [bg_w_id, Int.toNat_natCast, rw_land, sh_land, not_true_eq_false, eg, ek, ec, kc0, kc1, kc2, kc3, kc4, kc5, kc6, kc7, kc8, kc9, kc10, kc11, kc12, kc13, kc14, kc15, kc16, kc17, kc18, kc19, kc20, kc21, kc22, kc23, kc24, kc25, kc26, kc27, kc28, kc29, kc30, kc31, kc32, kc33] at q62) <;> (omega)
        by_cases c3 : av = 0
        · iterate 2 (refine hX _ ?_; conv => whnf)
          refine hX _ ?_; conv => whnf
          refine ⟨fun q10 => ?_, fun q10 => ?_⟩
          · exfalso
            (try simp (disch := omega) only [bg_w_id, Int.toNat_natCast, rw_land, sh_land, not_true_eq_false, kc0, kc1, kc2, kc3, kc4, kc5, kc6, kc7, kc8, kc9, kc10, kc11, kc12, kc13, kc14, kc15, kc16, kc17, kc18, kc19, kc20, kc21, kc22, kc23, kc24, kc25, kc26, kc27, kc28, kc29, kc30, kc31, kc32, kc33] at q10) <;> (omega)
          · try simp (disch := omega) only [bg_w_id, Int.toNat_natCast, rw_land, sh_land, not_true_eq_false, kc0, kc1, kc2, kc3, kc4, kc5, kc6, kc7, kc8, kc9, kc10, kc11, kc12, kc13, kc14, kc15, kc16, kc17, kc18, kc19, kc20, kc21, kc22, kc23, kc24, kc25, kc26, kc27, kc28, kc29, kc30, kc31, kc32, kc33] at q10
            refine hX _ ?_; conv => whnf
            refine hX _ ?_; conv => whnf
            refine ⟨fun q14 => ?_, fun q14 => ?_⟩
            · exfalso
              (try simp (disch := omega) only [bg_w_id, Int.toNat_natCast, rw_land, sh_land, not_true_eq_false, kc0, kc1, kc2, kc3, kc4, kc5, kc6, kc7, kc8, kc9, kc10, kc11, kc12, kc13, kc14, kc15, kc16, kc17, kc18, kc19, kc20, kc21, kc22, kc23, kc24, kc25, kc26, kc27, kc28, kc29, kc30, kc31, kc32, kc33] at q14) <;> (omega)
            · try simp (disch := omega) only [bg_w_id, Int.toNat_natCast, rw_land, sh_land, not_true_eq_false, kc0, kc1, kc2, kc3, kc4, kc5, kc6, kc7, kc8, kc9, kc10, kc11, kc12, kc13, kc14, kc15, kc16, kc17, kc18, kc19, kc20, kc21, kc22, kc23, kc24, kc25, kc26, kc27, kc28, kc29, kc30, kc31, kc32, kc33] at q14
              iterate 2 (refine hX _ ?_; conv => whnf)
              refine hX _ ?_; conv => whnf
              refine ⟨fun q19 => ?_, fun q19 => ?_⟩
              · exfalso
                (try simp (disch := omega) only [bg_w_id, Int.toNat_natCast, rw_land, sh_land, not_true_eq_false, kc0, kc1, kc2, kc3, kc4, kc5, kc6, kc7, kc8, kc9, kc10, kc11, kc12, kc13, kc14, kc15, kc16, kc17, kc18, kc19, kc20, kc21, kc22, kc23, kc24, kc25, kc26, kc27, kc28, kc29, kc30, kc31, kc32, kc33] at q19) <;> (omega)
              · try simp (disch := omega) only [bg_w_id, Int.toNat_natCast, rw_land, sh_land, not_true_eq_false, kc0, kc1, kc2, kc3, kc4, kc5, kc6, kc7, kc8, kc9, kc10, kc11, kc12, kc13, kc14, kc15, kc16, kc17, kc18, kc19, kc20, kc21, kc22, kc23, kc24, kc25, kc26, kc27, kc28, kc29, kc30, kc31, kc32, kc33] at q19
                refine hX _ ?_; conv => whnf
                refine hX _ ?_; conv => whnf
                refine ⟨fun q23 => ?_, fun q23 => ?_⟩
                · exfalso
                  (try simp (disch := omega) only [bg_w_id, Int.toNat_natCast, rw_land, sh_land, not_true_eq_false, kc0, kc1, kc2, kc3, kc4, kc5, kc6, kc7, kc8, kc9, kc10, kc11, kc12, kc13, kc14, kc15, kc16, kc17, kc18, kc19, kc20, kc21, kc22, kc23, kc24, kc25, kc26, kc27, kc28, kc29, kc30, kc31, kc32, kc33] at q23) <;> (omega)
                · try simp (disch := omega) only [bg_w_id, Int.toNat_natCast, rw_land, sh_land, not_true_eq_false, kc0, kc1, kc2, kc3, kc4, kc5, kc6, kc7, kc8, kc9, kc10, kc11, kc12, kc13, kc14, kc15, kc16, kc17, kc18, kc19, kc20, kc21, kc22, kc23, kc24, kc25, kc26, kc27, kc28, kc29, kc30, kc31, kc32, kc33] at q23
                  iterate 2 (refine hX _ ?_; conv => whnf)
                  refine hX _ ?_; conv => whnf
                  refine ⟨fun q29 => ?_, fun q29 => ?_⟩
                  · exfalso
                    (try simp (disch := omega) only [bg_w_id, Int.toNat_natCast, rw_land, sh_land, not_true_eq_false, kc0, kc1, kc2, kc3, kc4, kc5, kc6, kc7, kc8, kc9, kc10, kc11, kc12, kc13, kc14, kc15, kc16, kc17, kc18, kc19, kc20, kc21, kc22, kc23, kc24, kc25, kc26, kc27, kc28, kc29, kc30, kc31, kc32, kc33] at q29) <;> (rcases av01 with ⟨x, y⟩ | ⟨x, y⟩ <;> rcases c1 with z | z <;> first | omega | simp_all)
                  · try simp (disch := omega) only [bg_w_id, Int.toNat_natCast, rw_land, sh_land, not_true_eq_false, kc0, kc1, kc2, kc3, kc4, kc5, kc6, kc7, kc8, kc9, kc10, kc11, kc12, kc13, kc14, kc15, kc16, kc17, kc18, kc19, kc20, kc21, kc22, kc23, kc24, kc25, kc26, kc27, kc28, kc29, kc30, kc31, kc32, kc33] at q29
                    iterate 3 (refine hX _ ?_; conv => whnf)
                    exact d41
        · iterate 2 (refine hX _ ?_; conv => whnf)
          refine hX _ ?_; conv => whnf
          refine ⟨fun q10 => ?_, fun q10 => ?_⟩
          · exfalso
            (try simp (disch := omega) only [bg_w_id, Int.toNat_natCast, rw_land, sh_land, not_true_eq_false, kc0, kc1, kc2, kc3, kc4, kc5, kc6, kc7, kc8, kc9, kc10, kc11, kc12, kc13, kc14, kc15, kc16, kc17, kc18, kc19, kc20, kc21, kc22, kc23, kc24, kc25, kc26, kc27, kc28, kc29, kc30, kc31, kc32, kc33] at q10) <;> (omega)
          · try simp (disch := omega) only [bg_w_id, Int.toNat_natCast, rw_land, sh_land, not_true_eq_false, kc0, kc1, kc2, kc3, kc4, kc5, kc6, kc7, kc8, kc9, kc10, kc11, kc12, kc13, kc14, kc15, kc16, kc17, kc18, kc19, kc20, kc21, kc22, kc23, kc24, kc25, kc26, kc27, kc28, kc29, kc30, kc31, kc32, kc33] at q10
            refine hX _ ?_; conv => whnf
            refine hX _ ?_; conv => whnf
            refine ⟨fun q14 => ?_, fun q14 => ?_⟩
            · exfalso
              (try simp (disch := omega) only [bg_w_id, Int.toNat_natCast, rw_land, sh_land, not_true_eq_false, kc0, kc1, kc2, kc3, kc4, kc5, kc6, kc7, kc8, kc9, kc10, kc11, kc12, kc13, kc14, kc15, kc16, kc17, kc18, kc19, kc20, kc21, kc22, kc23, kc24, kc25, kc26, kc27, kc28, kc29, kc30, kc31, kc32, kc33] at q14) <;> (omega)
            · try simp (disch := omega) only [bg_w_id, Int.toNat_natCast, rw_land, sh_land, not_true_eq_false, kc0, kc1, kc2, kc3, kc4, kc5, kc6, kc7, kc8, kc9, kc10, kc11, kc12, kc13, kc14, kc15, kc16, kc17, kc18, kc19, kc20, kc21, kc22, kc23, kc24, kc25, kc26, kc27, kc28, kc29, kc30, kc31, kc32, kc33] at q14
              iterate 2 (refine hX _ ?_; conv => whnf)
              refine hX _ ?_; conv => whnf
              refine ⟨fun q19 => ?_, fun q19 => ?_⟩
              · exfalso
                (try simp (disch := omega) only [bg_w_id, Int.toNat_natCast, rw_land, sh_land, not_true_eq_false, kc0, kc1, kc2, kc3, kc4, kc5, kc6, kc7, kc8, kc9, kc10, kc11, kc12, kc13, kc14, kc15, kc16, kc17, kc18, kc19, kc20, kc21, kc22, kc23, kc24, kc25, kc26, kc27, kc28, kc29, kc30, kc31, kc32, kc33] at q19) <;> (omega)
              · try simp (disch := omega) only [bg_w_id, Int.toNat_natCast, rw_land, sh_land, not_true_eq_false, kc0, kc1, kc2, kc3, kc4, kc5, kc6, kc7, kc8, kc9, kc10, kc11, kc12, kc13, kc14, kc15, kc16, kc17, kc18, kc19, kc20, kc21, kc22, kc23, kc24, kc25, kc26, kc27, kc28, kc29, kc30, kc31, kc32, kc33] at q19
                refine hX _ ?_; conv => whnf
                refine hX _ ?_; conv => whnf
                refine ⟨fun q23 => ?_, fun q23 => ?_⟩
                · try simp (disch := omega) only [bg_w_id, Int.toNat_natCast, rw_land, sh_land, not_true_eq_false, kc0, kc1, kc2, kc3, kc4, kc5, kc6, kc7, kc8, kc9, kc10, kc11, kc12, kc13, kc14, kc15, kc16, kc17, kc18, kc19, kc20, kc21, kc22, kc23, kc24, kc25, kc26, kc27, kc28, kc29, kc30, kc31, kc32, kc33] at q23
                  iterate 3 (refine hX _ ?_; conv => whnf)
                  exact d41
                · exfalso
                  (try simp (disch := omega) only [bg_w_id, Int.toNat_natCast, rw_land, sh_land, not_true_eq_false, kc0, kc1, kc2, kc3, kc4, kc5, kc6, kc7, kc8, kc9, kc10, kc11, kc12, kc13, kc14, kc15, kc16, kc17, kc18, kc19, kc20, kc21, kc22, kc23, kc24, kc25, kc26, kc27, kc28, kc29, kc30, kc31, kc32, kc33] at q23) <;> (omega)
      · rw [if_neg (fun x => c1 x.1)] at ih
        have ekg : k = g := by
          by_cases x : k = g
          · exact x
          · exact absurd (Or.inr x) c1
        have ea : av = 0 := by
          rcases av01 with ⟨x, y⟩ | ⟨x, y⟩
          · exact absurd (Or.inl y) c1
          · exact x
        iterate 2 (refine hX _ ?_; conv => whnf)
        refine hX _ ?_; conv => whnf
        refine ⟨fun q10 => ?_, fun q10 => ?_⟩
        · exfalso
          (try simp (disch := omega) only [bg_w_id, Int.toNat_natCast, rw_land, sh_land, not_true_eq_false, kc0, kc1, kc2, kc3, kc4, kc5, kc6, kc7, kc8, kc9, kc10, kc11, kc12, kc13, kc14, kc15, kc16, kc17, kc18, kc19, kc20, kc21, kc22, kc23, kc24, kc25, kc26, kc27, kc28, kc29, kc30, kc31, kc32, kc33] at q10) <;> (omega)
        · try simp (disch := omega) only [bg_w_id, Int.toNat_natCast, rw_land, sh_land, not_true_eq_false, kc0, kc1, kc2, kc3, kc4, kc5, kc6, kc7, kc8, kc9, kc10, kc11, kc12, kc13, kc14, kc15, kc16, kc17, kc18, kc19, kc20, kc21, kc22, kc23, kc24, kc25, kc26, kc27, kc28, kc29, kc30, kc31, kc32, kc33] at q10
          refine hX _ ?_; conv => whnf
          refine hX _ ?_; conv => whnf
          refine ⟨fun q14 => ?_, fun q14 => ?_⟩
          · exfalso
            (try simp (disch := omega) only [bg_w_id, Int.toNat_natCast, rw_land, sh_land, not_true_eq_false, kc0, kc1, kc2, kc3, kc4, kc5, kc6, kc7, kc8, kc9, kc10, kc11, kc12, kc13, kc14, kc15, kc16, kc17, kc18, kc19, kc20, kc21, kc22, kc23, kc24, kc25, kc26, kc27, kc28, kc29, kc30, kc31, kc32, kc33] at q14) <;> (omega)
          · try simp (disch := omega) only [bg_w_id, Int.toNat_natCast, rw_land, sh_land, not_true_eq_false, kc0, kc1, kc2, kc3, kc4, kc5, kc6, kc7, kc8, kc9, kc10, kc11, kc12, kc13, kc14, kc15, kc16, kc17, kc18, kc19, kc20, kc21, kc22, kc23, kc24, kc25, kc26, kc27, kc28, kc29, kc30, kc31, kc32, kc33] at q14
            iterate 2 (refine hX _ ?_; conv => whnf)
            refine hX _ ?_; conv => whnf
            refine ⟨fun q19 => ?_, fun q19 => ?_⟩
            · exfalso
              (try simp (disch := omega) only [bg_w_id, Int.toNat_natCast, rw_land, sh_land, not_true_eq_false, kc0, kc1, kc2, kc3, kc4, kc5, kc6, kc7, kc8, kc9, kc10, kc11, kc12, kc13, kc14, kc15, kc16, kc17, kc18, kc19, kc20, kc21, kc22, kc23, kc24, kc25, kc26, kc27, kc28, kc29, kc30, kc31, kc32, kc33] at q19) <;> (omega)
            · try simp (disch := omega) only [bg_w_id, Int.toNat_natCast, rw_land, sh_land, not_true_eq_false, kc0, kc1, kc2, kc3, kc4, kc5, kc6, kc7, kc8, kc9, kc10, kc11, kc12, kc13, kc14, kc15, kc16, kc17, kc18, kc19, kc20, kc21, kc22, kc23, kc24, kc25, kc26, kc27, kc28, kc29, kc30, kc31, kc32, kc33] at q19
              refine hX _ ?_; conv => whnf
              refine hX _ ?_; conv => whnf
              refine ⟨fun q23 => ?_, fun q23 => ?_⟩
              · exfalso
                (try simp (disch := omega) only [bg_w_id, Int.toNat_natCast, rw_land, sh_land, not_true_eq_false, kc0, kc1, kc2, kc3, kc4, kc5, kc6, kc7, kc8, kc9, kc10, kc11, kc12, kc13, kc14, kc15, kc16, kc17, kc18, kc19, kc20, kc21, kc22, kc23, kc24, kc25, kc26, kc27, kc28, kc29, kc30, kc31, kc32, kc33] at q23) <;> (omega)
              · try simp (disch := omega) only [bg_w_id, Int.toNat_natCast, rw_land, sh_land, not_true_eq_false, kc0, kc1, kc2, kc3, kc4, kc5, kc6, kc7, kc8, kc9, kc10, kc11, kc12, kc13, kc14, kc15, kc16, kc17, kc18, kc19, kc20, kc21, kc22, kc23, kc24, kc25, kc26, kc27, kc28, kc29, kc30, kc31, kc32, kc33] at q23
                iterate 2 (refine hX _ ?_; conv => whnf)
                refine hX _ ?_; conv => whnf
                refine ⟨fun q29 => ?_, fun q29 => ?_⟩
                · try simp (disch := omega) only [bg_w_id, Int.toNat_natCast, rw_land, sh_land, not_true_eq_false, kc0, kc1, kc2, kc3, kc4, kc5, kc6, kc7, kc8, kc9, kc10, kc11, kc12, kc13, kc14, kc15, kc16, kc17, kc18, kc19, kc20, kc21, kc22, kc23, kc24, kc25, kc26, kc27, kc28, kc29, kc30, kc31, kc32, kc33] at q29
                  iterate 3 (refine hX _ ?_; conv => whnf)
                  refine hX _ ?_; conv => whnf
                  refine ⟨fun q41 => ?_, fun q41 => ?_⟩
                  · try simp (disch := omega) only [bg_w_id, Int.toNat_natCast, rw_land, sh_land, not_true_eq_false, kc0, kc1, kc2, kc3, kc4, kc5, kc6, kc7, kc8, kc9, kc10, kc11, kc12, kc13, kc14, kc15, kc16, kc17, kc18, kc19, kc20, kc21, kc22, kc23, kc24, kc25, kc26, kc27, kc28, kc29, kc30, kc31, kc32, kc33] at q41
                    iterate 2 (refine hX _ ?_; conv => whnf)
                    exact ih _
                  · exfalso
                    (try simp (disch := omega) only [bg_w_id, Int.toNat_natCast, rw_land, sh_land, not_true_eq_false, kc0, kc1, kc2, kc3, kc4, kc5, kc6, kc7, kc8, kc9, kc10, kc11, kc12, kc13, kc14, kc15, kc16, kc17, kc18, kc19, kc20, kc21, kc22, kc23, kc24, kc25, kc26, kc27, kc28, kc29, kc30, kc31, kc32, kc33] at q41) <;> (omega)
                · exfalso
                  (try simp (disch := omega) only [bg_w_id, Int.toNat_natCast, rw_land, sh_land, not_true_eq_false, kc0, kc1, kc2, kc3, kc4, kc5, kc6, kc7, kc8, kc9, kc10, kc11, kc12, kc13, kc14, kc15, kc16, kc17, kc18, kc19, kc20, kc21, kc22, kc23, kc24, kc25, kc26, kc27, kc28, kc29, kc30, kc31, kc32, kc33] at q29) <;> (omega)
  iterate 4 (refine hX _ ?_; conv => whnf)
  exact l1 0 (by omega) _
/-- the class's sums behind t more nights -/
def csT (al : Bool) (bc : Nat → Nat → Int) (co : Nat → Int) (dd : Int) : Nat → Nat → Int
  | 0, g => co g
  | t + 1, g => if lbR al (bc g) (csT al bc co dd t) dd g 4 = 2147483647 ∨ co g = 2147483647 then 2147483647 else lbR al (bc g) (csT al bc co dd t) dd g 4 + co g
theorem csT_s (al : Bool) (bc : Nat → Nat → Int) (co : Nat → Int) (dd : Int) (t g : Nat) : csT al bc co dd (t + 1) g = if lbR al (bc g) (csT al bc co dd t) dd g 4 = 2147483647 ∨ co g = 2147483647 then 2147483647 else lbR al (bc g) (csT al bc co dd t) dd g 4 + co g := rfl
theorem lbR_at {al : Bool} {bc cs : Nat → Int} {dd : Int} {g : Nat} : ∀ n, lbR al bc cs dd g n = 2147483647 ∨ ∃ k, k < n ∧ lbR al bc cs dd g n = cs k
  | 0 => Or.inl rfl
  | n + 1 => by
    rw [lbR_s]
    rcases lbR_at (al := al) (bc := bc) (cs := cs) (dd := dd) (g := g) n with ih | ⟨k, h1, h2⟩
    · split
      · split
        · exact Or.inr ⟨n, by omega, rfl⟩
        · exact Or.inl ih
      · exact Or.inl ih
    · split
      · split
        · exact Or.inr ⟨n, by omega, rfl⟩
        · exact Or.inr ⟨k, by omega, h2⟩
      · exact Or.inr ⟨k, by omega, h2⟩
theorem csT_rg {al : Bool} {bc : Nat → Nat → Int} {co : Nat → Int} {dd : Int} (hco : ∀ g, g < 4 → co g = 2147483647 ∨ (0 ≤ co g ∧ co g ≤ 1200)) : ∀ t g, g < 4 → csT al bc co dd t g = 2147483647 ∨ (0 ≤ csT al bc co dd t g ∧ csT al bc co dd t g ≤ 1200 * ((t : Int) + 1))
  | 0, g, hg => by
    have := hco g hg
    show co g = _ ∨ _ ≤ co g ∧ co g ≤ _
    omega
  | t + 1, g, hg => by
    rw [csT_s]
    split
    · exact Or.inl rfl
    · rename_i c
      right
      have h1 := hco g hg
      rcases lbR_at (al := al) (bc := bc g) (cs := csT al bc co dd t) (dd := dd) (g := g) 4 with x | ⟨k, x1, x2⟩
      · exact absurd (Or.inl x) c
      · have ih := csT_rg (al := al) (bc := bc) (dd := dd) hco t k x1
        rw [x2] at c ⊢
        have c1 : ¬ csT al bc co dd t k = 2147483647 := fun e => c (Or.inl e)
        have c2 : ¬ co g = 2147483647 := fun e => c (Or.inr e)
        omega
def mnF (cs : Nat → Int) (n : Nat) : Int := fo n (fun k a => if cs k < a then cs k else a) 2147483647
theorem s_leastSum (d n : Nat) (m : Nat) (hm : 1 ≤ m ∧ m ≤ 8) (al : Bool) (dd : Int) (hd : 0 ≤ dd ∧ dd ≤ 15) (ps co : Nat → Int) (hco : ∀ g, g < 4 → co g = 2147483647 ∨ (0 ≤ co g ∧ co g ≤ 1200)) (h : bg_G) (hp : ∀ k : Nat, k < 4 → h 69 k = ps k ∧ h 70 k = co k ∧ h 71 k = co k) (Rt : bg_R) (hR : ∀ h' : bg_G, (∀ k, k ≠ 71 → k ≠ 72 → h' k = h k) → Rt (some (.inl (mnF (csT al (fun g k => bitc (bg_xor (ps k) (ps g))) co dd (m - 1)) 4))) (bg_SH n, h')) : bg_Ca bg_MS (d + 3) 60 [vR 68, vI m, vI dd, vI (if al then 1 else 0)] (bg_SH n, h) Rt := by
  obtain ⟨bc, hbc⟩ : ∃ bc : Nat → Nat → Int, bc = fun g k => bitc (bg_xor (ps k) (ps g)) := ⟨_, rfl⟩
  rw [← hbc] at hR
  have rg := csT_rg (al := al) (bc := bc) (dd := dd) hco
  refine bg_ca (cd := cd_X5_leastSum) rfl rfl ?_
  intro X hX
  -- the least of all
  have fin : ∀ (h' : bg_G), (∀ k, k ≠ 71 → k ≠ 72 → h' k = h k) → (∀ g : Nat, g < 4 → h' 71 g = csT al bc co dd (m - 1) g) → ∀ g, g ≤ 4 → ∀ j6 : Option bg_V, X (109, [oR 68, oI (m : Int), oI dd, oI (if al then 1 else 0), oI (mnF (csT al bc co dd (m - 1)) g), oI (g : Int), j6], [], (bg_SH n, h'), (0, 0)) := by
    intro h' f1 f2
    refine lp_up 4 _ ?_ (fun g hg ih => ?_)
    · intro j6
      iterate 2 (refine hX _ ?_; conv => whnf)
      refine hX _ ?_; conv => whnf
      refine ⟨fun q112 => ?_, fun q112 => ?_⟩
      · try simp (disch := omega) only [bg_w_id, Int.toNat_natCast, rw_land, sh_land, not_true_eq_false, kc0, kc1, kc2, kc3, kc4, kc5, kc6, kc7, kc8, kc9, kc10, kc11, kc12, kc13, kc14, kc15, kc16, kc17, kc18, kc19, kc20, kc21, kc22, kc23, kc24, kc25, kc26, kc27, kc28, kc29, kc30, kc31, kc32, kc33] at q112
        refine hX _ ?_; conv => whnf
        refine hX _ ?_; conv => whnf
        exact hR h' f1
      · exfalso
        (try simp (disch := omega) only [bg_w_id, Int.toNat_natCast, rw_land, sh_land, not_true_eq_false, kc0, kc1, kc2, kc3, kc4, kc5, kc6, kc7, kc8, kc9, kc10, kc11, kc12, kc13, kc14, kc15, kc16, kc17, kc18, kc19, kc20, kc21, kc22, kc23, kc24, kc25, kc26, kc27, kc28, kc29, kc30, kc31, kc32, kc33] at q112) <;> (omega)
    · intro j6
      have e := f2 g hg
      have r := rg (m - 1) g hg
      have rm : ∀ q, q ≤ 4 → 0 ≤ mnF (csT al bc co dd (m - 1)) q ∧ mnF (csT al bc co dd (m - 1)) q ≤ 2147483647 := by
        intro q
        induction q with
        | zero => intro _; unfold mnF fo; omega
        | succ q ih =>
          intro hq
          have ih := ih (by omega)
          have := rg (m - 1) q (by omega)
          show 0 ≤ (if csT al bc co dd (m - 1) q < mnF (csT al bc co dd (m - 1)) q then csT al bc co dd (m - 1) q else mnF (csT al bc co dd (m - 1)) q) ∧ (if csT al bc co dd (m - 1) q < mnF (csT al bc co dd (m - 1)) q then csT al bc co dd (m - 1) q else mnF (csT al bc co dd (m - 1)) q) ≤ 2147483647
          split <;> omega
      have rmg := rm g (by omega)
      have es : mnF (csT al bc co dd (m - 1)) (g + 1) = if csT al bc co dd (m - 1) g < mnF (csT al bc co dd (m - 1)) g then csT al bc co dd (m - 1) g else mnF (csT al bc co dd (m - 1)) g := rfl
      rw [es] at ih
      iterate 2 (refine hX _ ?_; conv => whnf)
      refine hX _ ?_; conv => whnf
      refine ⟨fun q112 => ?_, fun q112 => ?_⟩
      · exfalso
        (try simp (disch := omega) only [bg_w_id, Int.toNat_natCast, rw_land, sh_land, not_true_eq_false, e, kc0, kc1, kc2, kc3, kc4, kc5, kc6, kc7, kc8, kc9, kc10, kc11, kc12, kc13, kc14, kc15, kc16, kc17, kc18, kc19, kc20, kc21, kc22, kc23, kc24, kc25, kc26, kc27, kc28, kc29, kc30, kc31, kc32, kc33] at q112) <;> (omega)
      · try simp (disch := omega) only [bg_w_id, Int.toNat_natCast, rw_land, sh_land, not_true_eq_false, e, kc0, kc1, kc2, kc3, kc4, kc5, kc6, kc7, kc8, kc9, kc10, kc11, kc12, kc13, kc14, kc15, kc16, kc17, kc18, kc19, kc20, kc21, kc22, kc23, kc24, kc25, kc26, kc27, kc28, kc29, kc30, kc31, kc32, kc33] at q112
        iterate 4 (refine hX _ ?_; conv => whnf)
        refine hX _ ?_; conv => whnf
        try (simp (disch := omega) only [bg_w_id, Int.toNat_natCast, rw_land, sh_land, not_true_eq_false, e]; try conv => whnf)
        refine ⟨by first | omega | (simp (disch := omega) only [bg_w_id, Int.toNat_natCast, rw_land, sh_land, not_true_eq_false, e]; omega), ?_⟩
        iterate 4 (refine hX _ ?_; conv => whnf)
        try rw [bg_w_id (by omega) (by omega), bg_w_id (by omega) (by omega)]
        exact ih _
  have l1 : ∀ t, t ≤ m - 1 → ∀ (h' : bg_G) (j5 j6 : Option bg_V), (∀ k, k ≠ 71 → k ≠ 72 → h' k = h k) → (∀ g : Nat, g < 4 → h' 71 g = csT al bc co dd t g) → X (3, [oR 68, oI (m : Int), oI dd, oI (if al then 1 else 0), oI ((t : Int) + 1), j5, j6], [], (bg_SH n, h'), (0, 0)) := by
    refine lp_up (m - 1) _ ?_ (fun t ht ih => ?_)
    · intro h' j5 j6 f1 f2
      have := fin h' f1 f2 0 (by omega) j6
      iterate 2 (refine hX _ ?_; conv => whnf)
      refine hX _ ?_; conv => whnf
      refine ⟨fun q6 => ?_, fun q6 => ?_⟩
      · try simp (disch := omega) only [bg_w_id, Int.toNat_natCast, rw_land, sh_land, not_true_eq_false, kc0, kc1, kc2, kc3, kc4, kc5, kc6, kc7, kc8, kc9, kc10, kc11, kc12, kc13, kc14, kc15, kc16, kc17, kc18, kc19, kc20, kc21, kc22, kc23, kc24, kc25, kc26, kc27, kc28, kc29, kc30, kc31, kc32, kc33] at q6
        iterate 4 (refine hX _ ?_; conv => whnf)
        exact this
      · exfalso
        (try simp (disch := omega) only [bg_w_id, Int.toNat_natCast, rw_land, sh_land, not_true_eq_false, kc0, kc1, kc2, kc3, kc4, kc5, kc6, kc7, kc8, kc9, kc10, kc11, kc12, kc13, kc14, kc15, kc16, kc17, kc18, kc19, kc20, kc21, kc22, kc23, kc24, kc25, kc26, kc27, kc28, kc29, kc30, kc31, kc32, kc33] at q6) <;> (omega)
    · intro h' j5 j6 f1 f2
      have l2 : ∀ g, g ≤ 4 → ∀ (h2 : bg_G) (j6 : Option bg_V), (∀ k, k ≠ 72 → h2 k = h' k) → (∀ g' : Nat, g' < g → h2 72 g' = csT al bc co dd (t + 1) g') → X (19, [oR 68, oI (m : Int), oI dd, oI (if al then 1 else 0), oI ((t : Int) + 1), oI (g : Int), j6], [], (bg_SH n, h2), (0, 0)) := by
        refine lp_up 4 _ ?_ (fun g hg ih2 => ?_)
        · intro h2 j6 g1 g2
          iterate 2 (refine hX _ ?_; conv => whnf)
          refine hX _ ?_; conv => whnf
          refine ⟨fun q22 => ?_, fun q22 => ?_⟩
          · try simp (disch := omega) only [bg_w_id, Int.toNat_natCast, rw_land, sh_land, not_true_eq_false, kc0, kc1, kc2, kc3, kc4, kc5, kc6, kc7, kc8, kc9, kc10, kc11, kc12, kc13, kc14, kc15, kc16, kc17, kc18, kc19, kc20, kc21, kc22, kc23, kc24, kc25, kc26, kc27, kc28, kc29, kc30, kc31, kc32, kc33] at q22
            iterate 7 (refine hX _ ?_; conv => whnf)
            refine hX _ ?_; conv => whnf
            try simp (disch := omega) only [bg_w_id, Int.toNat_natCast, rw_land, sh_land, not_true_eq_false]
            refine ⟨by omega, ?_⟩
            conv => whnf
            iterate 2 (refine hX _ ?_; conv => whnf)
            refine ih _ _ _ (fun k k1 k2 => ?_) (fun g hg => ?_)
            · rw [cpy_ne k1, g1 k k2]; exact f1 k k1 k2
            · rw [cpy_at]
              rw [if_pos (by omega), ← g2 g hg]
              congr 1
              omega
          · exfalso
            (try simp (disch := omega) only [bg_w_id, Int.toNat_natCast, rw_land, sh_land, not_true_eq_false, kc0, kc1, kc2, kc3, kc4, kc5, kc6, kc7, kc8, kc9, kc10, kc11, kc12, kc13, kc14, kc15, kc16, kc17, kc18, kc19, kc20, kc21, kc22, kc23, kc24, kc25, kc26, kc27, kc28, kc29, kc30, kc31, kc32, kc33] at q22) <;> (omega)
        · intro h2 j6 g1 g2
          have e69 : h2 70 (g : Int) = co g := by rw [g1 70 (by omega), f1 70 (by omega) (by omega)]; exact (hp g hg).2.1
          have cg := hco g hg
          have rl := lbR_rg (al := al) (bc := bc g) (dd := dd) (g := g) (cs := csT al bc co dd t) 4 (fun k hk => by have := rg t k hk; omega)
          obtain ⟨lb, elb⟩ : ∃ lb : Int, lb = lbR al (bc g) (csT al bc co dd t) dd g 4 := ⟨_, rfl⟩
          have es := csT_s al bc co dd t g
          rw [← elb] at es rl
          have r1 := rg (t + 1) g hg
          have nx : ∀ (v : Int) (j6 : Option bg_V), v = csT al bc co dd (t + 1) g → X (19, [oR 68, oI (m : Int), oI dd, oI (if al then 1 else 0), oI ((t : Int) + 1), oI ((g : Int) + 1), j6], [], (bg_SH n, bg_up h2 72 g v), (0, 0)) := by
            intro v j6 ev
            refine ih2 _ _ (fun k hk => by rw [bg_up_ne hk]; exact g1 k hk) (fun g' hg' => ?_)
            by_cases e : g' = g
            · subst e; rw [bg_up_self]; exact ev
            · rw [bg_up_nj (by omega)]; exact g2 g' (by omega)
          iterate 2 (refine hX _ ?_; conv => whnf)
          refine hX _ ?_; conv => whnf
          refine ⟨fun q22 => ?_, fun q22 => ?_⟩
          · exfalso
            (try simp (disch := omega) only [bg_w_id, Int.toNat_natCast, rw_land, sh_land, not_true_eq_false, e69, kc0, kc1, kc2, kc3, kc4, kc5, kc6, kc7, kc8, kc9, kc10, kc11, kc12, kc13, kc14, kc15, kc16, kc17, kc18, kc19, kc20, kc21, kc22, kc23, kc24, kc25, kc26, kc27, kc28, kc29, kc30, kc31, kc32, kc33] at q22) <;> (omega)
          · try simp (disch := omega) only [bg_w_id, Int.toNat_natCast, rw_land, sh_land, not_true_eq_false, e69, kc0, kc1, kc2, kc3, kc4, kc5, kc6, kc7, kc8, kc9, kc10, kc11, kc12, kc13, kc14, kc15, kc16, kc17, kc18, kc19, kc20, kc21, kc22, kc23, kc24, kc25, kc26, kc27, kc28, kc29, kc30, kc31, kc32, kc33] at q22
            iterate 4 (refine hX _ ?_; conv => whnf)
            refine hX _ ?_; conv => whnf
            try simp (disch := omega) only [bg_w_id, Int.toNat_natCast, rw_land, sh_land, not_true_eq_false, e69]
            refine s_leastBefore d n g hg al dd hd (csT al bc co dd t) ps h2 (fun k hk => by rw [g1 69 (by omega), f1 69 (by omega) (by omega)]; exact (hp k hk).1) (fun k hk => ⟨by rw [g1 71 (by omega)]; exact f2 k hk, by have := rg t k hk; omega, by have := rg t k hk; omega⟩) _ ?_
            rw [show lbR al (fun k => bitc (bg_xor (ps k) (ps g))) (csT al bc co dd t) dd g 4 = lb by rw [elb, hbc]]
            conv => whnf
            iterate 6 (refine hX _ ?_; conv => whnf)
            refine hX _ ?_; conv => whnf
            refine ⟨fun q45 => ?_, fun q45 => ?_⟩
            · try simp (disch := omega) only [bg_w_id, Int.toNat_natCast, rw_land, sh_land, not_true_eq_false, e69, kc0, kc1, kc2, kc3, kc4, kc5, kc6, kc7, kc8, kc9, kc10, kc11, kc12, kc13, kc14, kc15, kc16, kc17, kc18, kc19, kc20, kc21, kc22, kc23, kc24, kc25, kc26, kc27, kc28, kc29, kc30, kc31, kc32, kc33] at q45
              iterate 2 (refine hX _ ?_; conv => whnf)
              refine hX _ ?_; conv => whnf
              try (simp (disch := omega) only [bg_w_id, Int.toNat_natCast, rw_land, sh_land, not_true_eq_false, e69]; try conv => whnf)
              refine ⟨by first | omega | (simp (disch := omega) only [bg_w_id, Int.toNat_natCast, rw_land, sh_land, not_true_eq_false, e69]; omega), ?_⟩
              iterate 2 (refine hX _ ?_; conv => whnf)
              first
              | exact nx _ _ (by rw [es, if_pos (Or.inl (by omega))])
              | exact nx _ _ (by rw [es, if_pos (Or.inr (by omega))])
              | exact nx _ _ (by rw [es, if_neg (by omega)])
            · try simp (disch := omega) only [bg_w_id, Int.toNat_natCast, rw_land, sh_land, not_true_eq_false, e69, kc0, kc1, kc2, kc3, kc4, kc5, kc6, kc7, kc8, kc9, kc10, kc11, kc12, kc13, kc14, kc15, kc16, kc17, kc18, kc19, kc20, kc21, kc22, kc23, kc24, kc25, kc26, kc27, kc28, kc29, kc30, kc31, kc32, kc33] at q45
              iterate 3 (refine hX _ ?_; conv => whnf)
              refine hX _ ?_; conv => whnf
              try (simp (disch := omega) only [bg_w_id, Int.toNat_natCast, rw_land, sh_land, not_true_eq_false, e69]; try conv => whnf)
              refine ⟨by first | omega | (simp (disch := omega) only [bg_w_id, Int.toNat_natCast, rw_land, sh_land, not_true_eq_false, e69]; omega), ?_⟩
              refine hX _ ?_; conv => whnf
              refine hX _ ?_; conv => whnf
              refine ⟨fun q57 => ?_, fun q57 => ?_⟩
              · try simp (disch := omega) only [bg_w_id, Int.toNat_natCast, rw_land, sh_land, not_true_eq_false, e69, kc0, kc1, kc2, kc3, kc4, kc5, kc6, kc7, kc8, kc9, kc10, kc11, kc12, kc13, kc14, kc15, kc16, kc17, kc18, kc19, kc20, kc21, kc22, kc23, kc24, kc25, kc26, kc27, kc28, kc29, kc30, kc31, kc32, kc33] at q57
                iterate 4 (refine hX _ ?_; conv => whnf)
                refine hX _ ?_; conv => whnf
                try (simp (disch := omega) only [bg_w_id, Int.toNat_natCast, rw_land, sh_land, not_true_eq_false, e69]; try conv => whnf)
                refine ⟨by first | omega | (simp (disch := omega) only [bg_w_id, Int.toNat_natCast, rw_land, sh_land, not_true_eq_false, e69]; omega), ?_⟩
                refine hX _ ?_; conv => whnf
                refine hX _ ?_; conv => whnf
                try (simp (disch := omega) only [bg_w_id, Int.toNat_natCast, rw_land, sh_land, not_true_eq_false, e69]; try conv => whnf)
                refine ⟨by first | omega | (simp (disch := omega) only [bg_w_id, Int.toNat_natCast, rw_land, sh_land, not_true_eq_false, e69]; omega), ?_⟩
                iterate 2 (refine hX _ ?_; conv => whnf)
                first
                | exact nx _ _ (by rw [es, if_pos (Or.inl (by omega))])
                | exact nx _ _ (by rw [es, if_pos (Or.inr (by omega))])
                | exact nx _ _ (by rw [es, if_neg (by omega)])
              · try simp (disch := omega) only [bg_w_id, Int.toNat_natCast, rw_land, sh_land, not_true_eq_false, e69, kc0, kc1, kc2, kc3, kc4, kc5, kc6, kc7, kc8, kc9, kc10, kc11, kc12, kc13, kc14, kc15, kc16, kc17, kc18, kc19, kc20, kc21, kc22, kc23, kc24, kc25, kc26, kc27, kc28, kc29, kc30, kc31, kc32, kc33] at q57
                iterate 2 (refine hX _ ?_; conv => whnf)
                refine hX _ ?_; conv => whnf
                try (simp (disch := omega) only [bg_w_id, Int.toNat_natCast, rw_land, sh_land, not_true_eq_false, e69]; try conv => whnf)
                refine ⟨by first | omega | (simp (disch := omega) only [bg_w_id, Int.toNat_natCast, rw_land, sh_land, not_true_eq_false, e69]; omega), ?_⟩
                iterate 2 (refine hX _ ?_; conv => whnf)
                first
                | exact nx _ _ (by rw [es, if_pos (Or.inl (by omega))])
                | exact nx _ _ (by rw [es, if_pos (Or.inr (by omega))])
                | exact nx _ _ (by rw [es, if_neg (by omega)])
      iterate 2 (refine hX _ ?_; conv => whnf)
      refine hX _ ?_; conv => whnf
      refine ⟨fun q6 => ?_, fun q6 => ?_⟩
      · exfalso
        (try simp (disch := omega) only [bg_w_id, Int.toNat_natCast, rw_land, sh_land, not_true_eq_false, kc0, kc1, kc2, kc3, kc4, kc5, kc6, kc7, kc8, kc9, kc10, kc11, kc12, kc13, kc14, kc15, kc16, kc17, kc18, kc19, kc20, kc21, kc22, kc23, kc24, kc25, kc26, kc27, kc28, kc29, kc30, kc31, kc32, kc33] at q6) <;> (omega)
      · try simp (disch := omega) only [bg_w_id, Int.toNat_natCast, rw_land, sh_land, not_true_eq_false, kc0, kc1, kc2, kc3, kc4, kc5, kc6, kc7, kc8, kc9, kc10, kc11, kc12, kc13, kc14, kc15, kc16, kc17, kc18, kc19, kc20, kc21, kc22, kc23, kc24, kc25, kc26, kc27, kc28, kc29, kc30, kc31, kc32, kc33] at q6
        iterate 2 (refine hX _ ?_; conv => whnf)
        refine hX _ ?_; conv => whnf
        refine ⟨fun q13 => ?_, fun q13 => ?_⟩
        · exfalso
          (try simp (disch := omega) only [bg_w_id, Int.toNat_natCast, rw_land, sh_land, not_true_eq_false, kc0, kc1, kc2, kc3, kc4, kc5, kc6, kc7, kc8, kc9, kc10, kc11, kc12, kc13, kc14, kc15, kc16, kc17, kc18, kc19, kc20, kc21, kc22, kc23, kc24, kc25, kc26, kc27, kc28, kc29, kc30, kc31, kc32, kc33] at q13) <;> (omega)
        · try simp (disch := omega) only [bg_w_id, Int.toNat_natCast, rw_land, sh_land, not_true_eq_false, kc0, kc1, kc2, kc3, kc4, kc5, kc6, kc7, kc8, kc9, kc10, kc11, kc12, kc13, kc14, kc15, kc16, kc17, kc18, kc19, kc20, kc21, kc22, kc23, kc24, kc25, kc26, kc27, kc28, kc29, kc30, kc31, kc32, kc33] at q13
          iterate 2 (refine hX _ ?_; conv => whnf)
          exact l2 0 (by omega) h' _ (fun _ _ => rfl) (fun g' hg' => absurd hg' (by omega))
  iterate 2 (refine hX _ ?_; conv => whnf)
  have := l1 0 (by omega) h none none (fun _ _ _ => rfl) (fun g hg => (hp g hg).2.2)
  exact this
