theorem mnr_ck {k : Nat} {R R' : Nat → Nat → Int} (hk : k ≤ 3) (h : ∀ l q, l < k → q < k → R l q = R' l q) : mnr k R = mnr k R' := by
  match k, hk, h with
  | 0, _, _ => rfl
  | 1, _, h => exact h 0 0 (by omega) (by omega)
  | 2, _, h =>
    show R 0 0 * R 1 1 - R 0 1 * R 1 0 = R' 0 0 * R' 1 1 - R' 0 1 * R' 1 0
    rw [h 0 0 (by omega) (by omega), h 0 1 (by omega) (by omega), h 1 0 (by omega) (by omega), h 1 1 (by omega) (by omega)]
  | 3, _, h => exact mnr_c (k := 3) (by omega) h
theorem cof_ck {k : Nat} {A A' : Nat → Nat → Int} (hk : 1 ≤ k ∧ k ≤ 4) (h : ∀ i j, i < k → j < k → A i j = A' i j) {i j : Nat} (hi : i < k) (hj : j < k) : cof k A i j = cof k A' i j := by
  have sk : ∀ x l : Nat, x < k → l < k - 1 → skp x l < k := fun x l hx hl => by unfold skp; split <;> omega
  unfold cof
  rw [mnr_ck (k := k - 1) (by omega) (fun l q hl hq => h _ _ (sk i l hi hl) (sk j q hj hq))]
theorem kF_c {k : Nat} {A A' : Nat → Nat → Int} (hk : 1 ≤ k ∧ k ≤ 4) (h : ∀ i j, i < k → j < k → A i j = A' i j) : (∀ i, i < k → gkF k A i = gkF k A' i) ∧ (∀ j, j < k → ckF k A j = ckF k A' j) ∧ WkF k A = WkF k A' ∧ dvF k A = dvF k A' := by
  have a : ∀ i, i < k → gkF k A i = gkF k A' i := fun i hi => sm_congr (fun j hj => cof_ck hk h hi hj)
  have b : ∀ j, j < k → ckF k A j = ckF k A' j := fun j hj => sm_congr (fun i hi => cof_ck hk h hi hj)
  refine ⟨a, b, sm_congr (fun i hi => a i hi), sm_congr (fun j hj => ?_)⟩
  show ckF k A j * A 0 j = ckF k A' j * A' 0 j
  rw [b j hj, h 0 j (by omega) hj]
/-- what the model finds of a support, in the class's words -/
def SLV (h : bg_G) (B : Nat → Nat → Int) (a b : Nat) : Prop := h 115 28 = vlF B a b ∧ h 115 29 = sgW B a b * WW B a b ∧ ∀ k : Nat, k < 4 → h 136 k = sgW B a b * GP B a b k ∧ h 136 (4 + (k : Int)) = sgW B a b * CP B a b k
theorem abv_m {s : Nat} (hs : s < 16) (f : Nat → Int) : abv s f 4 ↔ ∀ i, i < pc 15 s → 0 < f (mb s i) := by
  constructor
  · intro h i hi
    have := mb_s s hs i hi
    exact h _ this.1 this.2.1
  · intro h k hk hb
    have := (ah_s s hs k hk).2 hb
    have x := h _ this.2
    rw [this.1] at x
    exact x
/-- a set of told ones, member by member -/
theorem sub_b : ∀ a : Nat, a < 16 → ∀ g : Nat, g < 16 → sub a g → ∀ k : Nat, k < 4 → a.testBit k = true → g.testBit k = true := by decide +kernel
theorem tS_b (r : Nat → Int) {k : Nat} (hk : k < 4) : (tSet r).testBit k = true ↔ 0 ≤ r k := by
  unfold tSet
  rw [stN_tb]
  simp [hk]
theorem s_msolve (d n a b : Nat) (ha : a < 16) (hb : b < 16) (hab : pc 15 b = pc 15 a) (h1 : 1 ≤ pc 15 a ∧ pc 15 a ≤ 4) (h : bg_G) (hl : LAID h) (hm : MEM h a b) (hta : sub a (tgM h)) (htb : sub b (tcM h)) (hG : BG (b4 h)) (Rt : bg_R) (hR1 : mixP (b4 h) a b → ∀ h' : bg_G, frS h h' → h' 137 = h 137 → SLV h' (b4 h) a b → Rt (some (.inl 1)) (bg_SH n, h')) (hR0 : ¬ mixP (b4 h) a b → ∀ h' : bg_G, frS h h' → Rt (some (.inl 0)) (bg_SH n, h')) : bg_Ca bg_MS (d + 6) 172 [vR 115, vI (pc 15 a : Nat)] (bg_SH n, h) Rt := by
  obtain ⟨B, hB⟩ : ∃ B, B = b4 h := ⟨_, rfl⟩
  have ta0 : ∀ g : Nat, g < 4 → a.testBit g = true → 0 ≤ h 122 g := fun g hg x => (tS_b (fun k => h 122 k) hg).1 (sub_b a ha _ (tSet_lt _) hta g hg x)
  have tb0 : ∀ c : Nat, c < 4 → b.testBit c = true → 0 ≤ h 123 c := fun c hc x => (tS_b (fun k => h 123 k) hc).1 (sub_b b hb _ (tSet_lt _) htb c hc x)
  have mA := mb_s a ha
  have mB := mb_s b hb
  have eA : ∀ i j, i < pc 15 a → j < pc 15 a → GS h a b i j = SQ B a b i j := fun i j hi hj => by
    have x := mA i hi
    have y := mB j (by omega)
    show gmM h (mb a i) (mb b j) = B (mb a i) (mb b j)
    rw [hB]
    unfold b4 bgM
    rw [if_pos ⟨x.1, y.1⟩, if_pos ⟨ta0 _ x.1 x.2.1, tb0 _ y.1 y.2.1⟩]
  obtain ⟨kg, kc, kw, kd⟩ := kF_c h1 eA
  have eW : WkF (pc 15 a) (GS h a b) = WW B a b := by rw [kw, WW_k ha hb hab]
  have eG : ∀ i, i < pc 15 a → gkF (pc 15 a) (GS h a b) i = GP B a b (mb a i) := fun i hi => by
    have x := mA i hi
    rw [kg i hi, GP_k hb hab x.2.1, x.2.2]
  have eC : ∀ j, j < pc 15 a → ckF (pc 15 a) (GS h a b) j = CP B a b (mb b j) := fun j hj => by
    have y := mB j (by omega)
    rw [kc j hj, CP_k ha y.2.1, y.2.2]
  have eV : sgW B a b * dvF (pc 15 a) (GS h a b) = vlF B a b := by rw [kd, vl_k ha hb hab h1.1]
  have sq : (∀ i j, i < pc 15 a → j < pc 15 a → sq4 (GS h a b) i j = GS h a b i j) := fun i j hi hj => sq4_eq _ (by omega)
  obtain ⟨qg, qc, qw, qd⟩ := kF_c h1 sq
  obtain ⟨d1, d2, d3, d4⟩ := did (GS h a b) (pc 15 a) h1.1 (by omega)
  rw [qw, eW] at d1 d2
  rw [qd] at d3
  have rW : -96000000000 ≤ WW B a b ∧ WW B a b ≤ 96000000000 := WW_rg (by rw [hB]; exact hG) a b 4 (by omega)
  have rP := sgP_rg (B := B) (by rw [hB]; exact hG) a b
  rw [← hB] at hR1 hR0
  -- cells laid, the determinant told
  have lay : ∀ (sd ins : Nat) (iv : Int), sd ≤ 1 → ((iv = ins ∧ ins ≤ pc 15 a) ∨ (iv = -4 ∧ ins = 5)) → ∀ h' : bg_G, frS h h' → h' 137 = h 137 → ∀ Rt : bg_R, (∀ h2 : bg_G, (∀ k, k ≠ 135 → h2 k = h' k) → detL (pc 15 a + 1) (fun i : Nat => h2 135 (i : Int)) = detL (pc 15 a + 1) (clF sd (pc 15 a) ins (sq4 (GS h a b))) → Rt none (bg_SH n, h2)) → bg_Ca bg_MS (d + 5) 170 [vR 115, vI sd, vI (pc 15 a : Nat), vI iv] (bg_SH n, h') Rt := by
    intro sd ins iv hsd hiv h' f e6 Rt hR
    refine s_mlayCells d n sd a b hsd ha hb hab h1 ins iv hiv h' (LAID_fr hl f) (by unfold MEM; rw [e6]; exact hm) (fun c hc x => by rw [frS_e f 123 (by omega) (by omega)]; exact tb0 c hc x) Rt (fun h2 g1 g2 => hR h2 g1 ?_)
    rw [det_id h1 g2]
    have : GS h' a b = GS h a b := by
      funext i j
      exact gm_fr f _ _
    rw [this]
  obtain ⟨k, hk⟩ : ∃ k, k = pc 15 a := ⟨_, rfl⟩
  rw [← hk] at h1 eA eG eC eV d1 d2 d3 d4 lay qg qc
  rw [← hk]
  have kB : ∀ j, j < k → mb b j < 4 ∧ b.testBit (mb b j) = true ∧ ah b (mb b j) = j := fun j hj => mB j (by omega)
  have kA : ∀ j, j < k → mb a j < 4 ∧ a.testBit (mb a j) = true ∧ ah a (mb a j) = j := fun j hj => mA j (by omega)
  have ahA : ∀ g : Nat, g < 4 → a.testBit g = true → ah a g < k ∧ mb a (ah a g) = g := fun g hg x => by have := (ah_s a ha g hg).2 x; omega
  have ahB : ∀ g : Nat, g < 4 → b.testBit g = true → ah b g < k ∧ mb b (ah b g) = g := fun g hg x => by have := (ah_s b hb g hg).2 x; omega
  have ek1 : (k : Int) + 1 = ((k + 1 : Nat) : Int) := by omega
  obtain ⟨s, hs⟩ : ∃ s, s = sgW B a b := ⟨_, rfl⟩
  have s1 := sg_1 B a b
  rw [← hs] at rP eV s1
  refine bg_ca (cd := cd_X9_solve) rfl rfl ?_
  intro X hX
  by_cases c0 : WW B a b = 0
  · iterate 4 (refine hX _ ?_; conv => whnf)
    refine hX _ ?_; conv => whnf
    try simp (disch := omega) only [bg_w_id, Int.toNat_natCast, rw_land, sh_land, not_true_eq_false]
    refine lay 0 5 (-4) (by omega) (Or.inr ⟨rfl, rfl⟩) h (frS_refl h) rfl _ (fun h2 g1 g2 => ?_)
    conv => whnf
    iterate 5 (refine hX _ ?_; conv => whnf)
    refine hX _ ?_; conv => whnf
    try simp (disch := omega) only [bg_w_id, Int.toNat_natCast, rw_land, sh_land, not_true_eq_false]
    rw [ek1]
    refine s_mdet (d + 3) n (k + 1) (by omega) h2 _ ?_
    rw [g2, d1]
    conv => whnf
    refine hX _ ?_; conv => whnf
    try simp only [kc0, kc1, kc2, kc3, kc4, kc5, kc6, kc7, kc8, kc9, kc10, kc11, kc12, kc13, kc14, kc15, kc16, kc17, kc18, kc19, kc20, kc21, kc22, kc23, kc24, kc25, kc26, kc27, kc28, kc29, kc30, kc31, kc32, kc33]
    refine hX _ ?_; conv => whnf
    refine hX _ ?_; conv => whnf
    refine hX _ ?_; conv => whnf
    refine hX _ ?_; conv => whnf
    refine hX _ ?_; conv => whnf
    refine ⟨fun q => ?_, fun q => ?_⟩
    · exfalso
      rw [bg_Cmp_eq] at q
      have e : bg_up h2 115 29 (WW B a b) 115 29 = WW B a b := bg_up_self _ _ _ _
      exact q (congrArg bg_W (e.trans c0))
    · refine hX _ ?_; conv => whnf
      refine hX _ ?_; conv => whnf
      exact ⟨by omega, hR0 (fun x => x.1 c0) _ ⟨fun k k1 k2 k3 k4 => by rw [bg_up_ne k1, g1 k k2], fun j j1 j2 => by rw [bg_up_nj j2, g1 115 (by omega)]⟩⟩
  · -- the second loop
    have p2 : ∀ j, j ≤ k → ∀ (h' : bg_G) (al : Int) (w5 w7 : Int) (j10 : Option bg_V), w7 = s → frS h h' → h' 137 = h 137 → h' 115 28 = vlF B a b → h' 115 29 = WW B a b → (∀ g : Nat, g < 4 → h' 136 g = s * GP B a b g ∧ h' 136 (4 + (g : Int)) = if b.testBit g = true ∧ ah b g < j then s * CP B a b g else 0) → ((al = 1 ∧ (abv a (fun g => s * GP B a b g) 4 ∧ ∀ j' : Nat, j' < j → 0 < s * CP B a b (mb b j'))) ∨ (al = 0 ∧ ¬ (abv a (fun g => s * GP B a b g) 4 ∧ ∀ j' : Nat, j' < j → 0 < s * CP B a b (mb b j')))) → X (197, [oR 115, oI (k : Int), oL s, none, oI al, oL w5, none, oL w7, none, oI (j : Int), j10, none], [], (bg_SH n, h'), (0, 0)) := by
      refine lp_up k _ ?_ (fun j hj ih => ?_)
      · intro h' al w5 w7 j10 e7 f1 f2 f3 f4 f5 f6
        have slv : SLV (bg_up h' 115 29 (WW B a b * s)) B a b := by
          refine ⟨by rw [bg_up_nj (by decide)]; exact f3, by rw [bg_up_self, hs, Int.mul_comm], fun g hg => ?_⟩
          rw [bg_up_ne (by omega)]
          have := f5 g hg
          rw [← hs]
          refine ⟨this.1, ?_⟩
          rw [this.2]
          by_cases x : b.testBit g = true
          · rw [if_pos ⟨x, (ahB g hg x).1⟩]
          · rw [if_neg (fun y => x y.1), CP_out x, Int.mul_zero]
        have fr : frS h (bg_up h' 115 29 (WW B a b * s)) := ⟨fun k k1 k2 k3 k4 => by rw [bg_up_ne k1]; exact f1.1 k k1 k2 k3 k4, fun j j1 j2 => by rw [bg_up_nj j2]; exact f1.2 j j1 j2⟩
        have e136 : bg_up h' 115 29 (WW B a b * s) 137 = h 137 := by rw [bg_up_ne (by omega)]; exact f2
        have mx : mixP B a b ↔ (abv a (fun g => s * GP B a b g) 4 ∧ ∀ j' : Nat, j' < k → 0 < s * CP B a b (mb b j')) := by
          unfold mixP
          rw [← hs, abv_m hb (fun c => s * CP B a b c), hab, ← hk]
          exact ⟨fun x => x.2, fun x => ⟨c0, x⟩⟩
        iterate 2 (refine hX _ ?_; conv => whnf)
        refine hX _ ?_; conv => whnf
        refine ⟨fun q200 => ?_, fun q200 => ?_⟩
        · try simp (disch := omega) only [bg_w_id, Int.toNat_natCast, rw_land, sh_land, not_true_eq_false, f4, kc0, kc1, kc2, kc3, kc4, kc5, kc6, kc7, kc8, kc9, kc10, kc11, kc12, kc13, kc14, kc15, kc16, kc17, kc18, kc19, kc20, kc21, kc22, kc23, kc24, kc25, kc26, kc27, kc28, kc29, kc30, kc31, kc32, kc33] at q200
          iterate 7 (refine hX _ ?_; conv => whnf)
          try simp only [kc0, kc1, kc2, kc3, kc4, kc5, kc6, kc7, kc8, kc9, kc10, kc11, kc12, kc13, kc14, kc15, kc16, kc17, kc18, kc19, kc20, kc21, kc22, kc23, kc24, kc25, kc26, kc27, kc28, kc29, kc30, kc31, kc32, kc33]
          refine hX _ ?_; conv => whnf
          try rw [f4]
          rcases f6 with ⟨x, y⟩ | ⟨x, y⟩
          · subst x
            exact ⟨by omega, hR1 (mx.2 y) _ fr e136 slv⟩
          · subst x
            exact ⟨by omega, hR0 (fun z => y (mx.1 z)) _ fr⟩
        · exfalso
          (try simp (disch := omega) only [bg_w_id, Int.toNat_natCast, rw_land, sh_land, not_true_eq_false, f4, kc0, kc1, kc2, kc3, kc4, kc5, kc6, kc7, kc8, kc9, kc10, kc11, kc12, kc13, kc14, kc15, kc16, kc17, kc18, kc19, kc20, kc21, kc22, kc23, kc24, kc25, kc26, kc27, kc28, kc29, kc30, kc31, kc32, kc33] at q200) <;> (omega)
      · intro h' al w5 w7 j10 e7 f1 f2 f3 f4 f5 f6
        obtain ⟨y1, y2, y3⟩ := kB j hj
        have edet : detL (k + 1) (clF 1 k j (sq4 (GS h a b))) = CP B a b (mb b j) := by rw [(d4 j hj).2, qc j hj, eC j hj]
        have m2 : h' 137 (4 + (j : Int)) = (mb b j : Nat) := by rw [f2]; exact hm.2 j (by omega)
        have rc := (rP (mb b j)).2
        have al01 : al = 0 ∨ al = 1 := by rcases f6 with ⟨x, _⟩ | ⟨x, _⟩ <;> omega
        -- what comes next
        have nx : ∀ (h2 : bg_G) (al2 : Int), (∀ k, k ≠ 135 → h2 k = h' k) → ((al2 = 1 ∧ (al = 1 ∧ 0 < s * CP B a b (mb b j))) ∨ (al2 = 0 ∧ ¬ (al = 1 ∧ 0 < s * CP B a b (mb b j)))) → ∀ j10 : Option bg_V, X (197, [oR 115, oI (k : Int), oL s, none, oI al2, oL w5, none, oL s, none, oI ((j : Int) + 1), j10, none], [], (bg_SH n, bg_up h2 136 (4 + ((mb b j : Nat) : Int)) (s * CP B a b (mb b j))), (0, 0)) := by
          intro h2 al2 g1 ha2 j10
          refine ih _ al2 w5 s j10 rfl ⟨fun k k1 k2 k3 k4 => by rw [bg_up_ne k3, g1 k k2]; exact f1.1 k k1 k2 k3 k4, fun i i1 i2 => by rw [bg_up_ne (by omega), g1 115 (by omega)]; exact f1.2 i i1 i2⟩ (by rw [bg_up_ne (by omega), g1 137 (by omega)]; exact f2) (by rw [bg_up_ne (by omega), g1 115 (by omega)]; exact f3) (by rw [bg_up_ne (by omega), g1 115 (by omega)]; exact f4) (fun g hg => ?_) ?_
          · have fg := f5 g hg
            rw [bg_up_at, bg_up_at, g1 136 (by omega)]
            refine ⟨by rw [if_neg (by omega)]; exact fg.1, ?_⟩
            by_cases x : g = mb b j
            · subst x
              rw [if_pos rfl, if_pos ⟨y2, by omega⟩]
            · rw [if_neg (by omega), fg.2]
              by_cases z : b.testBit g = true
              · have zz := ahB g hg z
                have : ah b g ≠ j := fun e => x (by rw [← zz.2, e])
                by_cases w : ah b g < j
                · rw [if_pos ⟨z, w⟩, if_pos ⟨z, by omega⟩]
                · rw [if_neg (fun q => w q.2), if_neg (fun q => w (by omega))]
              · rw [if_neg (fun q => z q.1), if_neg (fun q => z q.1)]
          · have key : (abv a (fun g => s * GP B a b g) 4 ∧ ∀ j' : Nat, j' < j + 1 → 0 < s * CP B a b (mb b j')) ↔ ((abv a (fun g => s * GP B a b g) 4 ∧ ∀ j' : Nat, j' < j → 0 < s * CP B a b (mb b j')) ∧ 0 < s * CP B a b (mb b j)) := by
              constructor
              · intro ⟨p, q⟩
                exact ⟨⟨p, fun j' hj' => q j' (by omega)⟩, q j (by omega)⟩
              · intro ⟨⟨p, q⟩, r⟩
                refine ⟨p, fun j' hj' => ?_⟩
                by_cases e : j' = j
                · subst e; exact r
                · exact q j' (by omega)
            rw [key]
            rcases f6 with ⟨x, y⟩ | ⟨x, y⟩
            · rcases ha2 with ⟨u, v⟩ | ⟨u, v⟩
              · exact Or.inl ⟨u, y, v.2⟩
              · exact Or.inr ⟨u, fun z => v ⟨x, z.2⟩⟩
            · rcases ha2 with ⟨u, v⟩ | ⟨u, v⟩
              · omega
              · exact Or.inr ⟨u, fun z => y z.1⟩
        have x241 : ∀ (h2 : bg_G), (∀ k, k ≠ 135 → h2 k = h' k) → X (241, [oR 115, oI (k : Int), oL s, none, oI al, oL w5, none, oL s, none, oI (j : Int), oL (s * CP B a b (mb b j)), none], [], (bg_SH n, bg_up h2 136 (4 + ((mb b j : Nat) : Int)) (s * CP B a b (mb b j))), (0, 0)) := by
          intro h2 g1
          refine hX _ ?_; conv => whnf
          refine hX _ ?_; conv => whnf
          refine ⟨fun q243 => ?_, fun q243 => ?_⟩
          · try simp (disch := omega) only [bg_w_id, Int.toNat_natCast, rw_land, sh_land, not_true_eq_false, kc0, kc1, kc2, kc3, kc4, kc5, kc6, kc7, kc8, kc9, kc10, kc11, kc12, kc13, kc14, kc15, kc16, kc17, kc18, kc19, kc20, kc21, kc22, kc23, kc24, kc25, kc26, kc27, kc28, kc29, kc30, kc31, kc32, kc33] at q243
            iterate 4 (refine hX _ ?_; conv => whnf)
            exact nx h2 _ g1 (by omega) _
          · try simp (disch := omega) only [bg_w_id, Int.toNat_natCast, rw_land, sh_land, not_true_eq_false, kc0, kc1, kc2, kc3, kc4, kc5, kc6, kc7, kc8, kc9, kc10, kc11, kc12, kc13, kc14, kc15, kc16, kc17, kc18, kc19, kc20, kc21, kc22, kc23, kc24, kc25, kc26, kc27, kc28, kc29, kc30, kc31, kc32, kc33] at q243
            iterate 3 (refine hX _ ?_; conv => whnf)
            refine hX _ ?_; conv => whnf
            refine ⟨fun q250 => ?_, fun q250 => ?_⟩
            · try simp (disch := omega) only [bg_w_id, Int.toNat_natCast, rw_land, sh_land, not_true_eq_false, kc0, kc1, kc2, kc3, kc4, kc5, kc6, kc7, kc8, kc9, kc10, kc11, kc12, kc13, kc14, kc15, kc16, kc17, kc18, kc19, kc20, kc21, kc22, kc23, kc24, kc25, kc26, kc27, kc28, kc29, kc30, kc31, kc32, kc33] at q250
              rw [bg_Cmp_gt, bg_W_id (by omega) (by omega), bg_W_id (by omega) (by omega)] at q250
              iterate 4 (refine hX _ ?_; conv => whnf)
              exact nx h2 _ g1 (by omega) _
            · try simp (disch := omega) only [bg_w_id, Int.toNat_natCast, rw_land, sh_land, not_true_eq_false, kc0, kc1, kc2, kc3, kc4, kc5, kc6, kc7, kc8, kc9, kc10, kc11, kc12, kc13, kc14, kc15, kc16, kc17, kc18, kc19, kc20, kc21, kc22, kc23, kc24, kc25, kc26, kc27, kc28, kc29, kc30, kc31, kc32, kc33] at q250
              rw [bg_Cmp_gt, bg_W_id (by omega) (by omega), bg_W_id (by omega) (by omega)] at q250
              iterate 5 (refine hX _ ?_; conv => whnf)
              exact nx h2 _ g1 (by omega) _
        iterate 2 (refine hX _ ?_; conv => whnf)
        refine hX _ ?_; conv => whnf
        refine ⟨fun q200 => ?_, fun q200 => ?_⟩
        · exfalso
          (try simp (disch := omega) only [bg_w_id, Int.toNat_natCast, rw_land, sh_land, not_true_eq_false, m2, kc0, kc1, kc2, kc3, kc4, kc5, kc6, kc7, kc8, kc9, kc10, kc11, kc12, kc13, kc14, kc15, kc16, kc17, kc18, kc19, kc20, kc21, kc22, kc23, kc24, kc25, kc26, kc27, kc28, kc29, kc30, kc31, kc32, kc33] at q200) <;> (omega)
        · try simp (disch := omega) only [bg_w_id, Int.toNat_natCast, rw_land, sh_land, not_true_eq_false, m2, kc0, kc1, kc2, kc3, kc4, kc5, kc6, kc7, kc8, kc9, kc10, kc11, kc12, kc13, kc14, kc15, kc16, kc17, kc18, kc19, kc20, kc21, kc22, kc23, kc24, kc25, kc26, kc27, kc28, kc29, kc30, kc31, kc32, kc33] at q200
          iterate 4 (refine hX _ ?_; conv => whnf)
          refine hX _ ?_; conv => whnf
          try simp (disch := omega) only [bg_w_id, Int.toNat_natCast, rw_land, sh_land, not_true_eq_false, m2]
          refine lay 1 j j (by omega) (Or.inl ⟨rfl, by omega⟩) h' f1 f2 _ (fun h2 g1 g2 => ?_)
          rw [edet] at g2
          have m2' : h2 137 (4 + (j : Int)) = (mb b j : Nat) := by rw [g1 137 (by omega)]; exact m2
          conv => whnf
          iterate 5 (refine hX _ ?_; conv => whnf)
          refine hX _ ?_; conv => whnf
          try simp (disch := omega) only [bg_w_id, Int.toNat_natCast, rw_land, sh_land, not_true_eq_false, m2]
          rw [ek1]
          refine s_mdet (d + 3) n (k + 1) (by omega) h2 _ ?_
          rw [g2, e7]
          conv => whnf
          iterate 10 (refine hX _ ?_; conv => whnf)
          refine hX _ ?_; conv => whnf
          try (simp (disch := omega) only [bg_w_id, Int.toNat_natCast, rw_land, sh_land, not_true_eq_false, m2]; try conv => whnf)
          refine ⟨by first | omega | (simp (disch := omega) only [bg_w_id, Int.toNat_natCast, rw_land, sh_land, not_true_eq_false, m2]; omega), ?_⟩
          iterate 2 (refine hX _ ?_; conv => whnf)
          refine hX _ ?_; conv => whnf
          try (simp (disch := omega) only [bg_w_id, Int.toNat_natCast, rw_land, sh_land, not_true_eq_false, m2]; try conv => whnf)
          refine ⟨by first | omega | (simp (disch := omega) only [bg_w_id, Int.toNat_natCast, rw_land, sh_land, not_true_eq_false, m2]; omega), ?_⟩
          rw [m2']
          exact x241 h2 g1
    -- between the loops
    have mid : ∀ (h' : bg_G) (al : Int) (j6 : Option bg_V), frS h h' → h' 137 = h 137 → h' 115 29 = WW B a b → (∀ g : Nat, g < 4 → h' 136 g = s * GP B a b g ∧ h' 136 (4 + (g : Int)) = 0) → ((al = 1 ∧ abv a (fun g => s * GP B a b g) 4) ∨ (al = 0 ∧ ¬ abv a (fun g => s * GP B a b g) 4)) → X (141, [oR 115, oI (k : Int), oL s, none, oI al, oI (k : Int), j6, none, none, none, none, none], [], (bg_SH n, h'), (0, 0)) := by
      intro h' al j6 f1 f2 f4 f5 f6
      have x182 : ∀ (h2 : bg_G) (o : Int), o = WW B a b → frS h h2 → h2 137 = h 137 → h2 115 28 = vlF B a b → h2 115 29 = WW B a b → (∀ g : Nat, g < 4 → h2 136 g = s * GP B a b g ∧ h2 136 (4 + (g : Int)) = 0) → X (178, [oR 115, oI (k : Int), oL s, none, oI al, oL o, none, none, none, none, none, none], [], (bg_SH n, h2), (0, 0)) := by
        intro h2 o eo g1 g2 g3 g4 g5
        subst eo
        have fin : ∀ w7 : Int, w7 = s → X (197, [oR 115, oI (k : Int), oL s, none, oI al, oL (WW B a b), none, oL w7, none, oI ((0 : Nat) : Int), none, none], [], (bg_SH n, h2), (0, 0)) := fun w7 e7 => by
          refine p2 0 (by omega) h2 al _ w7 none e7 g1 g2 g3 g4 (fun g hg => ?_) ?_
          · have := g5 g hg
            exact ⟨this.1, by rw [if_neg (fun x => absurd x.2 (by omega))]; exact this.2⟩
          · rcases f6 with ⟨x, y⟩ | ⟨x, y⟩
            · exact Or.inl ⟨x, y, fun j' hj' => absurd hj' (by omega)⟩
            · exact Or.inr ⟨x, fun z => y z.1⟩
        by_cases c1 : WW B a b < 0
        · have := fin (-1) (by rw [hs]; unfold sgW; rw [if_pos c1])
          iterate 3 (refine hX _ ?_; conv => whnf)
          refine hX _ ?_; conv => whnf
          refine ⟨fun q182 => ?_, fun q182 => ?_⟩
          · exfalso
            (try simp (disch := omega) only [bg_w_id, Int.toNat_natCast, rw_land, sh_land, not_true_eq_false, kc0, kc1, kc2, kc3, kc4, kc5, kc6, kc7, kc8, kc9, kc10, kc11, kc12, kc13, kc14, kc15, kc16, kc17, kc18, kc19, kc20, kc21, kc22, kc23, kc24, kc25, kc26, kc27, kc28, kc29, kc30, kc31, kc32, kc33] at q182) <;> (rw [bg_Cmp_lt, bg_W_id (by omega) (by omega), bg_W_id (by omega) (by omega)] at q182; omega)
          · try simp (disch := omega) only [bg_w_id, Int.toNat_natCast, rw_land, sh_land, not_true_eq_false, kc0, kc1, kc2, kc3, kc4, kc5, kc6, kc7, kc8, kc9, kc10, kc11, kc12, kc13, kc14, kc15, kc16, kc17, kc18, kc19, kc20, kc21, kc22, kc23, kc24, kc25, kc26, kc27, kc28, kc29, kc30, kc31, kc32, kc33] at q182
            iterate 5 (refine hX _ ?_; conv => whnf)
            exact this
        · have := fin 1 (by rw [hs]; unfold sgW; rw [if_neg c1])
          iterate 3 (refine hX _ ?_; conv => whnf)
          refine hX _ ?_; conv => whnf
          refine ⟨fun q182 => ?_, fun q182 => ?_⟩
          · try simp (disch := omega) only [bg_w_id, Int.toNat_natCast, rw_land, sh_land, not_true_eq_false, kc0, kc1, kc2, kc3, kc4, kc5, kc6, kc7, kc8, kc9, kc10, kc11, kc12, kc13, kc14, kc15, kc16, kc17, kc18, kc19, kc20, kc21, kc22, kc23, kc24, kc25, kc26, kc27, kc28, kc29, kc30, kc31, kc32, kc33] at q182
            iterate 4 (refine hX _ ?_; conv => whnf)
            exact this
          · exfalso
            (try simp (disch := omega) only [bg_w_id, Int.toNat_natCast, rw_land, sh_land, not_true_eq_false, kc0, kc1, kc2, kc3, kc4, kc5, kc6, kc7, kc8, kc9, kc10, kc11, kc12, kc13, kc14, kc15, kc16, kc17, kc18, kc19, kc20, kc21, kc22, kc23, kc24, kc25, kc26, kc27, kc28, kc29, kc30, kc31, kc32, kc33] at q182) <;> (rw [bg_Cmp_lt, bg_W_id (by omega) (by omega), bg_W_id (by omega) (by omega)] at q182; omega)
      have x161 : ∀ h2 : bg_G, (∀ k, k ≠ 135 → h2 k = h' k) → X (161, [oR 115, oI (k : Int), oL s, none, oI al, oI (k : Int), j6, none, none, none, none, none], [], (bg_SH n, bg_up h2 115 28 (vlF B a b)), (0, 0)) := by
        intro h2 g1
        have fs2 : frS h (bg_up h2 115 28 (vlF B a b)) := ⟨fun k k1 k2 k3 k4 => by rw [bg_up_ne k1, g1 k k2]; exact f1.1 k k1 k2 k3 k4, fun j j1 j2 => by rw [bg_up_nj j1, g1 115 (by omega)]; exact f1.2 j j1 j2⟩
        have e136 : bg_up h2 115 28 (vlF B a b) 137 = h 137 := by rw [bg_up_ne (by omega), g1 137 (by omega)]; exact f2
        iterate 4 (refine hX _ ?_; conv => whnf)
        refine hX _ ?_; conv => whnf
        try simp (disch := omega) only [bg_w_id, Int.toNat_natCast, rw_land, sh_land, not_true_eq_false]
        refine lay 1 5 (-4) (by omega) (Or.inr ⟨rfl, rfl⟩) _ fs2 e136 _ (fun h3 k1 k2 => ?_)
        conv => whnf
        iterate 4 (refine hX _ ?_; conv => whnf)
        refine hX _ ?_; conv => whnf
        try simp (disch := omega) only [bg_w_id, Int.toNat_natCast, rw_land, sh_land, not_true_eq_false]
        rw [ek1]
        refine s_mdet (d + 3) n (k + 1) (by omega) h3 _ ?_
        rw [k2, d2]
        conv => whnf
        refine hX _ ?_; conv => whnf
        refine x182 h3 _ rfl ⟨fun k q1 q2 q3 q4 => by rw [k1 k q2]; exact fs2.1 k q1 q2 q3 q4, fun j j1 j2 => by rw [k1 115 (by omega)]; exact fs2.2 j j1 j2⟩ (by rw [k1 137 (by omega)]; exact e136) (by rw [k1 115 (by omega), bg_up_self]) (by rw [k1 115 (by omega), bg_up_nj (by decide), g1 115 (by omega)]; exact f4) (fun g hg => by rw [k1 136 (by omega), bg_up_ne (by omega), g1 136 (by omega)]; exact f5 g hg)
      iterate 4 (refine hX _ ?_; conv => whnf)
      refine hX _ ?_; conv => whnf
      try simp (disch := omega) only [bg_w_id, Int.toNat_natCast, rw_land, sh_land, not_true_eq_false]
      refine lay 0 k k (by omega) (Or.inl ⟨rfl, by omega⟩) h' f1 f2 _ (fun h2 g1 g2 => ?_)
      conv => whnf
      iterate 6 (refine hX _ ?_; conv => whnf)
      refine hX _ ?_; conv => whnf
      try simp (disch := omega) only [bg_w_id, Int.toNat_natCast, rw_land, sh_land, not_true_eq_false]
      rw [ek1]
      refine s_mdet (d + 3) n (k + 1) (by omega) h2 _ ?_
      rw [g2, d3]
      conv => whnf
      iterate 2 (refine hX _ ?_; conv => whnf)
      try simp only [kc0, kc1, kc2, kc3, kc4, kc5, kc6, kc7, kc8, kc9, kc10, kc11, kc12, kc13, kc14, kc15, kc16, kc17, kc18, kc19, kc20, kc21, kc22, kc23, kc24, kc25, kc26, kc27, kc28, kc29, kc30, kc31, kc32, kc33]
      rw [eV]
      exact x161 h2 g1
    -- the first loop
    have p1 : ∀ i, i ≤ k → ∀ (h' : bg_G) (al : Int) (j6 : Option bg_V), frS h h' → h' 137 = h 137 → h' 115 29 = WW B a b → (∀ g : Nat, g < 4 → h' 136 g = (if a.testBit g = true ∧ ah a g < i then s * GP B a b g else 0) ∧ h' 136 (4 + (g : Int)) = 0) → ((al = 1 ∧ ∀ i' : Nat, i' < i → 0 < s * GP B a b (mb a i')) ∨ (al = 0 ∧ ¬ ∀ i' : Nat, i' < i → 0 < s * GP B a b (mb a i'))) → X (77, [oR 115, oI (k : Int), oL s, none, oI al, oI (i : Int), j6, none, none, none, none, none], [], (bg_SH n, h'), (0, 0)) := by
      refine lp_up k _ ?_ (fun i hi ih => ?_)
      · intro h' al j6 f1 f2 f4 f5 f6
        have := mid h' al j6 f1 f2 f4 (fun g hg => by
          have := f5 g hg
          refine ⟨?_, this.2⟩
          rw [this.1]
          by_cases x : a.testBit g = true
          · rw [if_pos ⟨x, (ahA g hg x).1⟩]
          · rw [if_neg (fun y => x y.1), GP_out x, Int.mul_zero]) (by
          rw [abv_m ha (fun g => s * GP B a b g), ← hk]
          exact f6)
        iterate 2 (refine hX _ ?_; conv => whnf)
        refine hX _ ?_; conv => whnf
        refine ⟨fun q80 => ?_, fun q80 => ?_⟩
        · try simp (disch := omega) only [bg_w_id, Int.toNat_natCast, rw_land, sh_land, not_true_eq_false, kc0, kc1, kc2, kc3, kc4, kc5, kc6, kc7, kc8, kc9, kc10, kc11, kc12, kc13, kc14, kc15, kc16, kc17, kc18, kc19, kc20, kc21, kc22, kc23, kc24, kc25, kc26, kc27, kc28, kc29, kc30, kc31, kc32, kc33] at q80
          exact this
        · exfalso
          (try simp (disch := omega) only [bg_w_id, Int.toNat_natCast, rw_land, sh_land, not_true_eq_false, kc0, kc1, kc2, kc3, kc4, kc5, kc6, kc7, kc8, kc9, kc10, kc11, kc12, kc13, kc14, kc15, kc16, kc17, kc18, kc19, kc20, kc21, kc22, kc23, kc24, kc25, kc26, kc27, kc28, kc29, kc30, kc31, kc32, kc33] at q80) <;> (omega)
      · intro h' al j6 f1 f2 f4 f5 f6
        obtain ⟨y1, y2, y3⟩ := kA i hi
        have edet : detL (k + 1) (clF 0 k i (sq4 (GS h a b))) = GP B a b (mb a i) := by rw [(d4 i hi).1, qg i hi, eG i hi]
        have m1 : h' 137 (i : Int) = (mb a i : Nat) := by rw [f2]; exact hm.1 i (by omega)
        have rc := (rP (mb a i)).1
        have al01 : al = 0 ∨ al = 1 := by rcases f6 with ⟨x, _⟩ | ⟨x, _⟩ <;> omega
        have nx : ∀ (h2 : bg_G) (al2 : Int), (∀ k, k ≠ 135 → h2 k = h' k) → ((al2 = 1 ∧ (al = 1 ∧ 0 < s * GP B a b (mb a i))) ∨ (al2 = 0 ∧ ¬ (al = 1 ∧ 0 < s * GP B a b (mb a i)))) → ∀ j6 : Option bg_V, X (77, [oR 115, oI (k : Int), oL s, none, oI al2, oI ((i : Int) + 1), j6, none, none, none, none, none], [], (bg_SH n, bg_up h2 136 ((mb a i : Nat) : Int) (s * GP B a b (mb a i))), (0, 0)) := by
          intro h2 al2 g1 ha2 j6
          refine ih _ al2 j6 ⟨fun k k1 k2 k3 k4 => by rw [bg_up_ne k3, g1 k k2]; exact f1.1 k k1 k2 k3 k4, fun i i1 i2 => by rw [bg_up_ne (by omega), g1 115 (by omega)]; exact f1.2 i i1 i2⟩ (by rw [bg_up_ne (by omega), g1 137 (by omega)]; exact f2) (by rw [bg_up_ne (by omega), g1 115 (by omega)]; exact f4) (fun g hg => ?_) ?_
          · have fg := f5 g hg
            rw [bg_up_at, bg_up_at, g1 136 (by omega)]
            refine ⟨?_, by rw [if_neg (by omega)]; exact fg.2⟩
            by_cases x : g = mb a i
            · subst x
              rw [if_pos rfl, if_pos ⟨y2, by omega⟩]
            · rw [if_neg (by omega), fg.1]
              by_cases z : a.testBit g = true
              · have zz := ahA g hg z
                have : ah a g ≠ i := fun e => x (by rw [← zz.2, e])
                by_cases w : ah a g < i
                · rw [if_pos ⟨z, w⟩, if_pos ⟨z, by omega⟩]
                · rw [if_neg (fun q => w q.2), if_neg (fun q => w (by omega))]
              · rw [if_neg (fun q => z q.1), if_neg (fun q => z q.1)]
          · have key : (∀ i' : Nat, i' < i + 1 → 0 < s * GP B a b (mb a i')) ↔ ((∀ i' : Nat, i' < i → 0 < s * GP B a b (mb a i')) ∧ 0 < s * GP B a b (mb a i)) := by
              constructor
              · intro q
                exact ⟨fun j' hj' => q j' (by omega), q i (by omega)⟩
              · intro ⟨q, r⟩ j' hj'
                by_cases e : j' = i
                · subst e; exact r
                · exact q j' (by omega)
            rw [key]
            rcases f6 with ⟨x, y⟩ | ⟨x, y⟩
            · rcases ha2 with ⟨u, v⟩ | ⟨u, v⟩
              · exact Or.inl ⟨u, y, v.2⟩
              · exact Or.inr ⟨u, fun z => v ⟨x, z.2⟩⟩
            · rcases ha2 with ⟨u, v⟩ | ⟨u, v⟩
              · omega
              · exact Or.inr ⟨u, fun z => y z.1⟩
        have x116 : ∀ (h2 : bg_G), (∀ k, k ≠ 135 → h2 k = h' k) → X (116, [oR 115, oI (k : Int), oL s, none, oI al, oI (i : Int), oL (s * GP B a b (mb a i)), none, none, none, none, none], [], (bg_SH n, bg_up h2 136 ((mb a i : Nat) : Int) (s * GP B a b (mb a i))), (0, 0)) := by
          intro h2 g1
          refine hX _ ?_; conv => whnf
          refine hX _ ?_; conv => whnf
          refine ⟨fun q118 => ?_, fun q118 => ?_⟩
          · try simp (disch := omega) only [bg_w_id, Int.toNat_natCast, rw_land, sh_land, not_true_eq_false, kc0, kc1, kc2, kc3, kc4, kc5, kc6, kc7, kc8, kc9, kc10, kc11, kc12, kc13, kc14, kc15, kc16, kc17, kc18, kc19, kc20, kc21, kc22, kc23, kc24, kc25, kc26, kc27, kc28, kc29, kc30, kc31, kc32, kc33] at q118
            iterate 4 (refine hX _ ?_; conv => whnf)
            exact nx h2 _ g1 (by omega) _
          · try simp (disch := omega) only [bg_w_id, Int.toNat_natCast, rw_land, sh_land, not_true_eq_false, kc0, kc1, kc2, kc3, kc4, kc5, kc6, kc7, kc8, kc9, kc10, kc11, kc12, kc13, kc14, kc15, kc16, kc17, kc18, kc19, kc20, kc21, kc22, kc23, kc24, kc25, kc26, kc27, kc28, kc29, kc30, kc31, kc32, kc33] at q118
            iterate 3 (refine hX _ ?_; conv => whnf)
            refine hX _ ?_; conv => whnf
            refine ⟨fun q125 => ?_, fun q125 => ?_⟩
            · try simp (disch := omega) only [bg_w_id, Int.toNat_natCast, rw_land, sh_land, not_true_eq_false, kc0, kc1, kc2, kc3, kc4, kc5, kc6, kc7, kc8, kc9, kc10, kc11, kc12, kc13, kc14, kc15, kc16, kc17, kc18, kc19, kc20, kc21, kc22, kc23, kc24, kc25, kc26, kc27, kc28, kc29, kc30, kc31, kc32, kc33] at q125
              rw [bg_Cmp_gt, bg_W_id (by omega) (by omega), bg_W_id (by omega) (by omega)] at q125
              iterate 4 (refine hX _ ?_; conv => whnf)
              exact nx h2 _ g1 (by omega) _
            · try simp (disch := omega) only [bg_w_id, Int.toNat_natCast, rw_land, sh_land, not_true_eq_false, kc0, kc1, kc2, kc3, kc4, kc5, kc6, kc7, kc8, kc9, kc10, kc11, kc12, kc13, kc14, kc15, kc16, kc17, kc18, kc19, kc20, kc21, kc22, kc23, kc24, kc25, kc26, kc27, kc28, kc29, kc30, kc31, kc32, kc33] at q125
              rw [bg_Cmp_gt, bg_W_id (by omega) (by omega), bg_W_id (by omega) (by omega)] at q125
              iterate 5 (refine hX _ ?_; conv => whnf)
              exact nx h2 _ g1 (by omega) _
        iterate 2 (refine hX _ ?_; conv => whnf)
        refine hX _ ?_; conv => whnf
        refine ⟨fun q80 => ?_, fun q80 => ?_⟩
        · exfalso
          (try simp (disch := omega) only [bg_w_id, Int.toNat_natCast, rw_land, sh_land, not_true_eq_false, kc0, kc1, kc2, kc3, kc4, kc5, kc6, kc7, kc8, kc9, kc10, kc11, kc12, kc13, kc14, kc15, kc16, kc17, kc18, kc19, kc20, kc21, kc22, kc23, kc24, kc25, kc26, kc27, kc28, kc29, kc30, kc31, kc32, kc33] at q80) <;> (omega)
        · try simp (disch := omega) only [bg_w_id, Int.toNat_natCast, rw_land, sh_land, not_true_eq_false, kc0, kc1, kc2, kc3, kc4, kc5, kc6, kc7, kc8, kc9, kc10, kc11, kc12, kc13, kc14, kc15, kc16, kc17, kc18, kc19, kc20, kc21, kc22, kc23, kc24, kc25, kc26, kc27, kc28, kc29, kc30, kc31, kc32, kc33] at q80
          iterate 4 (refine hX _ ?_; conv => whnf)
          refine hX _ ?_; conv => whnf
          try simp (disch := omega) only [bg_w_id, Int.toNat_natCast, rw_land, sh_land, not_true_eq_false]
          refine lay 0 i i (by omega) (Or.inl ⟨rfl, by omega⟩) h' f1 f2 _ (fun h2 g1 g2 => ?_)
          rw [edet] at g2
          have m1' : h2 137 (i : Int) = (mb a i : Nat) := by rw [g1 137 (by omega)]; exact m1
          conv => whnf
          iterate 5 (refine hX _ ?_; conv => whnf)
          refine hX _ ?_; conv => whnf
          try simp (disch := omega) only [bg_w_id, Int.toNat_natCast, rw_land, sh_land, not_true_eq_false]
          rw [ek1]
          refine s_mdet (d + 3) n (k + 1) (by omega) h2 _ ?_
          rw [g2]
          conv => whnf
          iterate 7 (refine hX _ ?_; conv => whnf)
          refine hX _ ?_; conv => whnf
          try (simp (disch := omega) only [bg_w_id, Int.toNat_natCast, rw_land, sh_land, not_true_eq_false]; try conv => whnf)
          refine ⟨by first | omega | (simp (disch := omega) only [bg_w_id, Int.toNat_natCast, rw_land, sh_land, not_true_eq_false]; omega), ?_⟩
          refine hX _ ?_; conv => whnf
          refine hX _ ?_; conv => whnf
          try (simp (disch := omega) only [bg_w_id, Int.toNat_natCast, rw_land, sh_land, not_true_eq_false]; try conv => whnf)
          refine ⟨by first | omega | (simp (disch := omega) only [bg_w_id, Int.toNat_natCast, rw_land, sh_land, not_true_eq_false]; omega), ?_⟩
          rw [m1']
          exact x116 h2 g1
    have p0 : ∀ i : Nat, i ≤ 8 → ∀ h' : bg_G, frS h h' → h' 137 = h 137 → h' 115 29 = WW B a b → (∀ j : Int, 0 ≤ j → j < i → h' 136 j = 0) → X (53, [oR 115, oI (k : Int), oL s, none, oI 1, oI (i : Int), none, none, none, none, none, none], [], (bg_SH n, h'), (0, 0)) := by
      refine lp_up 8 _ ?_ (fun i hi ih => ?_)
      · intro h' f1 f2 f3 f4
        have := p1 0 (by omega) h' 1 none f1 f2 f3 (fun g hg => ⟨by rw [if_neg (fun x => absurd x.2 (by omega))]; exact f4 g (by omega) (by omega), f4 _ (by omega) (by omega)⟩) (Or.inl ⟨rfl, fun i' hi' => absurd hi' (by omega)⟩)
        iterate 2 (refine hX _ ?_; conv => whnf)
        refine hX _ ?_; conv => whnf
        refine ⟨fun q57 => ?_, fun q57 => ?_⟩
        · try simp (disch := omega) only [bg_w_id, Int.toNat_natCast, rw_land, sh_land, not_true_eq_false, kc0, kc1, kc2, kc3, kc4, kc5, kc6, kc7, kc8, kc9, kc10, kc11, kc12, kc13, kc14, kc15, kc16, kc17, kc18, kc19, kc20, kc21, kc22, kc23, kc24, kc25, kc26, kc27, kc28, kc29, kc30, kc31, kc32, kc33] at q57
          iterate 2 (refine hX _ ?_; conv => whnf)
          exact this
        · exfalso
          (try simp (disch := omega) only [bg_w_id, Int.toNat_natCast, rw_land, sh_land, not_true_eq_false, kc0, kc1, kc2, kc3, kc4, kc5, kc6, kc7, kc8, kc9, kc10, kc11, kc12, kc13, kc14, kc15, kc16, kc17, kc18, kc19, kc20, kc21, kc22, kc23, kc24, kc25, kc26, kc27, kc28, kc29, kc30, kc31, kc32, kc33] at q57) <;> (omega)
      · intro h' f1 f2 f3 f4
        iterate 2 (refine hX _ ?_; conv => whnf)
        refine hX _ ?_; conv => whnf
        refine ⟨fun q57 => ?_, fun q57 => ?_⟩
        · exfalso
          (try simp (disch := omega) only [bg_w_id, Int.toNat_natCast, rw_land, sh_land, not_true_eq_false, kc0, kc1, kc2, kc3, kc4, kc5, kc6, kc7, kc8, kc9, kc10, kc11, kc12, kc13, kc14, kc15, kc16, kc17, kc18, kc19, kc20, kc21, kc22, kc23, kc24, kc25, kc26, kc27, kc28, kc29, kc30, kc31, kc32, kc33] at q57) <;> (omega)
        · try simp (disch := omega) only [bg_w_id, Int.toNat_natCast, rw_land, sh_land, not_true_eq_false, kc0, kc1, kc2, kc3, kc4, kc5, kc6, kc7, kc8, kc9, kc10, kc11, kc12, kc13, kc14, kc15, kc16, kc17, kc18, kc19, kc20, kc21, kc22, kc23, kc24, kc25, kc26, kc27, kc28, kc29, kc30, kc31, kc32, kc33] at q57
          iterate 4 (refine hX _ ?_; conv => whnf)
          refine hX _ ?_; conv => whnf
          try (simp (disch := omega) only [bg_w_id, Int.toNat_natCast, rw_land, sh_land, not_true_eq_false]; try conv => whnf)
          refine ⟨by first | omega | (simp (disch := omega) only [bg_w_id, Int.toNat_natCast, rw_land, sh_land, not_true_eq_false]; omega), ?_⟩
          iterate 2 (refine hX _ ?_; conv => whnf)
          refine ih _ ⟨fun k k1 k2 k3 k4 => by rw [bg_up_ne k3]; exact f1.1 k k1 k2 k3 k4, fun j j1 j2 => by rw [bg_up_ne (by omega)]; exact f1.2 j j1 j2⟩ (by rw [bg_up_ne (by omega)]; exact f2) (by rw [bg_up_ne (by omega)]; exact f3) (fun j j0 j1 => ?_)
          by_cases e : j = i
          · rw [e, bg_up_self]
          · rw [bg_up_nj e]
            exact f4 j j0 (by omega)
    have p19 : ∀ h2 : bg_G, (∀ k, k ≠ 135 → h2 k = h k) → X (19, [oR 115, oI (k : Int), none, none, none, none, none, none, none, none, none, none], [], (bg_SH n, bg_up h2 115 29 (WW B a b)), (0, 0)) := by
      intro h2 g1
      have e29 : bg_up h2 115 29 (WW B a b) 115 29 = WW B a b := bg_up_self _ _ _ _
      have fs2 : frS h (bg_up h2 115 29 (WW B a b)) := ⟨fun k k1 k2 k3 k4 => by rw [bg_up_ne k1, g1 k k2], fun j j1 j2 => by rw [bg_up_nj j2, g1 115 (by omega)]⟩
      have e136 : bg_up h2 115 29 (WW B a b) 137 = h 137 := by rw [bg_up_ne (by omega), g1 137 (by omega)]
      generalize bg_up h2 115 29 (WW B a b) = h3 at *
      by_cases c1 : WW B a b < 0
      · have es : s = -1 := by rw [hs]; unfold sgW; rw [if_pos c1]
        have := p0 0 (by omega) h3 fs2 e136 e29 (fun j _ hj => absurd hj (by omega))
        rw [es] at this
        iterate 4 (refine hX _ ?_; conv => whnf)
        try simp only [kc0, kc1, kc2, kc3, kc4, kc5, kc6, kc7, kc8, kc9, kc10, kc11, kc12, kc13, kc14, kc15, kc16, kc17, kc18, kc19, kc20, kc21, kc22, kc23, kc24, kc25, kc26, kc27, kc28, kc29, kc30, kc31, kc32, kc33]
        refine hX _ ?_; conv => whnf
        refine ⟨fun q25 => ?_, fun q25 => ?_⟩
        · try simp (disch := omega) only [bg_w_id, Int.toNat_natCast, rw_land, sh_land, not_true_eq_false, e29, kc0, kc1, kc2, kc3, kc4, kc5, kc6, kc7, kc8, kc9, kc10, kc11, kc12, kc13, kc14, kc15, kc16, kc17, kc18, kc19, kc20, kc21, kc22, kc23, kc24, kc25, kc26, kc27, kc28, kc29, kc30, kc31, kc32, kc33] at q25
          iterate 4 (refine hX _ ?_; conv => whnf)
          try simp only [kc0, kc1, kc2, kc3, kc4, kc5, kc6, kc7, kc8, kc9, kc10, kc11, kc12, kc13, kc14, kc15, kc16, kc17, kc18, kc19, kc20, kc21, kc22, kc23, kc24, kc25, kc26, kc27, kc28, kc29, kc30, kc31, kc32, kc33]
          refine hX _ ?_; conv => whnf
          refine ⟨fun q36 => ?_, fun q36 => ?_⟩
          · exfalso
            (try simp (disch := omega) only [bg_w_id, Int.toNat_natCast, rw_land, sh_land, not_true_eq_false, e29, kc0, kc1, kc2, kc3, kc4, kc5, kc6, kc7, kc8, kc9, kc10, kc11, kc12, kc13, kc14, kc15, kc16, kc17, kc18, kc19, kc20, kc21, kc22, kc23, kc24, kc25, kc26, kc27, kc28, kc29, kc30, kc31, kc32, kc33] at q36) <;> (rw [bg_Cmp_lt, bg_W_id (by omega) (by omega), bg_W_id (by omega) (by omega)] at q36; omega)
          · try simp (disch := omega) only [bg_w_id, Int.toNat_natCast, rw_land, sh_land, not_true_eq_false, e29, kc0, kc1, kc2, kc3, kc4, kc5, kc6, kc7, kc8, kc9, kc10, kc11, kc12, kc13, kc14, kc15, kc16, kc17, kc18, kc19, kc20, kc21, kc22, kc23, kc24, kc25, kc26, kc27, kc28, kc29, kc30, kc31, kc32, kc33] at q36
            iterate 7 (refine hX _ ?_; conv => whnf)
            exact this
        · exfalso
          (try simp (disch := omega) only [bg_w_id, Int.toNat_natCast, rw_land, sh_land, not_true_eq_false, e29, kc0, kc1, kc2, kc3, kc4, kc5, kc6, kc7, kc8, kc9, kc10, kc11, kc12, kc13, kc14, kc15, kc16, kc17, kc18, kc19, kc20, kc21, kc22, kc23, kc24, kc25, kc26, kc27, kc28, kc29, kc30, kc31, kc32, kc33] at q25) <;> (rw [bg_Cmp_eq, bg_W_id (by omega) (by omega), bg_W_id (by omega) (by omega)] at q25; omega)
      · have es : s = 1 := by rw [hs]; unfold sgW; rw [if_neg c1]
        have := p0 0 (by omega) h3 fs2 e136 e29 (fun j _ hj => absurd hj (by omega))
        rw [es] at this
        iterate 4 (refine hX _ ?_; conv => whnf)
        try simp only [kc0, kc1, kc2, kc3, kc4, kc5, kc6, kc7, kc8, kc9, kc10, kc11, kc12, kc13, kc14, kc15, kc16, kc17, kc18, kc19, kc20, kc21, kc22, kc23, kc24, kc25, kc26, kc27, kc28, kc29, kc30, kc31, kc32, kc33]
        refine hX _ ?_; conv => whnf
        refine ⟨fun q25 => ?_, fun q25 => ?_⟩
        · try simp (disch := omega) only [bg_w_id, Int.toNat_natCast, rw_land, sh_land, not_true_eq_false, e29, kc0, kc1, kc2, kc3, kc4, kc5, kc6, kc7, kc8, kc9, kc10, kc11, kc12, kc13, kc14, kc15, kc16, kc17, kc18, kc19, kc20, kc21, kc22, kc23, kc24, kc25, kc26, kc27, kc28, kc29, kc30, kc31, kc32, kc33] at q25
          iterate 4 (refine hX _ ?_; conv => whnf)
          try simp only [kc0, kc1, kc2, kc3, kc4, kc5, kc6, kc7, kc8, kc9, kc10, kc11, kc12, kc13, kc14, kc15, kc16, kc17, kc18, kc19, kc20, kc21, kc22, kc23, kc24, kc25, kc26, kc27, kc28, kc29, kc30, kc31, kc32, kc33]
          refine hX _ ?_; conv => whnf
          refine ⟨fun q36 => ?_, fun q36 => ?_⟩
          · try simp (disch := omega) only [bg_w_id, Int.toNat_natCast, rw_land, sh_land, not_true_eq_false, e29, kc0, kc1, kc2, kc3, kc4, kc5, kc6, kc7, kc8, kc9, kc10, kc11, kc12, kc13, kc14, kc15, kc16, kc17, kc18, kc19, kc20, kc21, kc22, kc23, kc24, kc25, kc26, kc27, kc28, kc29, kc30, kc31, kc32, kc33] at q36
            iterate 6 (refine hX _ ?_; conv => whnf)
            exact this
          · exfalso
            (try simp (disch := omega) only [bg_w_id, Int.toNat_natCast, rw_land, sh_land, not_true_eq_false, e29, kc0, kc1, kc2, kc3, kc4, kc5, kc6, kc7, kc8, kc9, kc10, kc11, kc12, kc13, kc14, kc15, kc16, kc17, kc18, kc19, kc20, kc21, kc22, kc23, kc24, kc25, kc26, kc27, kc28, kc29, kc30, kc31, kc32, kc33] at q36) <;> (rw [bg_Cmp_lt, bg_W_id (by omega) (by omega), bg_W_id (by omega) (by omega)] at q36; omega)
        · exfalso
          (try simp (disch := omega) only [bg_w_id, Int.toNat_natCast, rw_land, sh_land, not_true_eq_false, e29, kc0, kc1, kc2, kc3, kc4, kc5, kc6, kc7, kc8, kc9, kc10, kc11, kc12, kc13, kc14, kc15, kc16, kc17, kc18, kc19, kc20, kc21, kc22, kc23, kc24, kc25, kc26, kc27, kc28, kc29, kc30, kc31, kc32, kc33] at q25) <;> (rw [bg_Cmp_eq, bg_W_id (by omega) (by omega), bg_W_id (by omega) (by omega)] at q25; omega)
    iterate 4 (refine hX _ ?_; conv => whnf)
    refine hX _ ?_; conv => whnf
    try simp (disch := omega) only [bg_w_id, Int.toNat_natCast, rw_land, sh_land, not_true_eq_false]
    refine lay 0 5 (-4) (by omega) (Or.inr ⟨rfl, rfl⟩) h (frS_refl h) rfl _ (fun h2 g1 g2 => ?_)
    conv => whnf
    iterate 5 (refine hX _ ?_; conv => whnf)
    refine hX _ ?_; conv => whnf
    try simp (disch := omega) only [bg_w_id, Int.toNat_natCast, rw_land, sh_land, not_true_eq_false]
    rw [ek1]
    refine s_mdet (d + 3) n (k + 1) (by omega) h2 _ ?_
    rw [g2, d1]
    conv => whnf
    refine hX _ ?_; conv => whnf
    try simp only [kc0, kc1, kc2, kc3, kc4, kc5, kc6, kc7, kc8, kc9, kc10, kc11, kc12, kc13, kc14, kc15, kc16, kc17, kc18, kc19, kc20, kc21, kc22, kc23, kc24, kc25, kc26, kc27, kc28, kc29, kc30, kc31, kc32, kc33]
    exact p19 h2 g1
