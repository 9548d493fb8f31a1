theorem sm_add {n : Nat} {f g : Nat → Int} : sm n (fun i => f i + g i) = sm n f + sm n g := by
  induction n with
  | zero => rfl
  | succ n ih => rw [sm, sm, sm, ih]; omega
theorem sm_sub {n : Nat} {f g : Nat → Int} : sm n (fun i => f i - g i) = sm n f - sm n g := by
  induction n with
  | zero => rfl
  | succ n ih => rw [sm, sm, sm, ih]; omega
theorem sm_le {n : Nat} {f g : Nat → Int} (h : ∀ i, i < n → f i ≤ g i) : sm n f ≤ sm n g := by
  induction n with
  | zero => exact Int.le_refl _
  | succ n ih => rw [sm, sm]; have := ih (fun i hi => h i (by omega)); have := h n (by omega); omega
theorem sm_eq_pt {n : Nat} {f g : Nat → Int} (h : ∀ i, i < n → f i ≤ g i) (he : sm n f = sm n g) : ∀ i, i < n → f i = g i := by
  induction n with
  | zero => intro i hi; omega
  | succ n ih =>
    intro i hi
    rw [sm, sm] at he
    have h1 := sm_le (fun i hi => h i (by omega)) (n := n) (f := f) (g := g)
    have h2 := h n (by omega)
    by_cases e : i = n
    · subst e; omega
    · exact ih (fun i hi => h i (by omega)) (by omega) i (by omega)
theorem sm_zero {n : Nat} : sm n (fun _ => 0) = 0 := by
  induction n with
  | zero => rfl
  | succ n ih => rw [sm, ih]; rfl
theorem sm8_sel (t : Nat → Int) (b g : Int) (hb : 0 ≤ b ∧ b ≤ 7) : sm 8 (fun v => t v * (if b = (v : Int) then g else 0)) = t b.toNat * g := by
  have : ∀ k : Nat, k < 8 → sm 8 (fun v => t v * (if ((k : Nat) : Int) = (v : Int) then g else 0)) = t k * g := by
    intro k hk
    match k, hk with
    | 0, _ => simp [sm]
    | 1, _ => simp [sm]
    | 2, _ => simp [sm]
    | 3, _ => simp [sm]
    | 4, _ => simp [sm]
    | 5, _ => simp [sm]
    | 6, _ => simp [sm]
    | 7, _ => simp [sm]
    | k + 8, h => exact absurd h (by omega)
  have := this b.toNat (by omega)
  rw [show ((b.toNat : Nat) : Int) = b by omega] at this
  exact this
theorem exv_swap {N : Nat} {A B g : Nat → Int} (t : Nat → Int) (hA : ∀ p, p < N → 0 ≤ A p ∧ A p ≤ 7) (hB : ∀ p, p < N → 0 ≤ B p ∧ B p ≤ 7) : sm 8 (fun v => t v * exv N A B g v) = sm N (fun p => t (B p).toNat * g p - t (A p).toNat * g p) := by
  induction N with
  | zero => unfold exv; simp [sm]
  | succ n ih =>
    show _ = sm n (fun p => t (B p).toNat * g p - t (A p).toNat * g p) + (t (B n).toNat * g n - t (A n).toNat * g n)
    rw [← ih (fun p hp => hA p (by omega)) (fun p hp => hB p (by omega)), ← sm8_sel t (B n) (g n) (hB n (by omega)), ← sm8_sel t (A n) (g n) (hA n (by omega)), ← sm_sub, ← sm_add]
    refine sm_congr (fun i _ => ?_)
    show t i * (exv n A B g i + ((if B n = i then g n else 0) - (if A n = i then g n else 0))) = _
    rw [Int.mul_add, Int.mul_sub]
def cutM (N : Nat) (A B cap : Nat → Int) (T : Nat) : Int := sm N (fun p => if bt T (A p) = 1 then if bt T (B p) = 1 then 0 else cap p else 0)
theorem flow_val {N : Nat} {A B g : Nat → Int} (hA : ∀ p, p < N → 0 ≤ A p ∧ A p ≤ 7) (hB : ∀ p, p < N → 0 ≤ B p ∧ B p ≤ 7) (hx : ∀ v : Int, 0 < v → v < 7 → exv N A B g v = 0) (T : Nat) (h0 : bt T 0 = 1) (h7 : bt T 7 = 0) : exv N A B g 7 = sm N (fun p => bt T (A p) * g p - bt T (B p) * g p) := by
  have e1 := exv_swap (g := g) (fun _ => 1) hA hB
  have e2 := exv_swap (g := g) (fun v => bt T v) hA hB
  have z : sm N (fun p => (1 : Int) * g p - 1 * g p) = 0 := by
    rw [sm_congr (g := fun _ => 0) (fun i _ => by omega)]; exact sm_zero
  have e1 : sm 8 (fun v => (1 : Int) * exv N A B g v) = 0 := by rw [e1]; exact z
  have e3 : sm N (fun p => bt T (A p) * g p - bt T (B p) * g p) = - sm N (fun p => bt T (((B p).toNat : Nat) : Int) * g p - bt T (((A p).toNat : Nat) : Int) * g p) := by
    have : sm N (fun p => bt T (A p) * g p - bt T (B p) * g p) + sm N (fun p => bt T (((B p).toNat : Nat) : Int) * g p - bt T (((A p).toNat : Nat) : Int) * g p) = 0 := by
      rw [← sm_add, sm_congr (g := fun _ => 0) (fun i hi => ?_)]
      · exact sm_zero
      · have := hA i hi
        have := hB i hi
        rw [show (((B i).toNat : Nat) : Int) = B i by omega, show (((A i).toNat : Nat) : Int) = A i by omega]
        omega
    omega
  rw [e3, ← e2]
  simp only [sm, kc0, kc1, kc2, kc3, kc4, kc5, kc6, kc7] at e1 ⊢
  rw [hx 1 (by omega) (by omega), hx 2 (by omega) (by omega), hx 3 (by omega) (by omega), hx 4 (by omega) (by omega), hx 5 (by omega) (by omega), hx 6 (by omega) (by omega)] at e1 ⊢
  rw [h0, h7]
  omega
/-- a cut that bears least, and is a part of every other such one -/
def minM (N : Nat) (A B cap : Nat → Int) (F : Int) (S : Nat) : Prop := S < 256 ∧ bt S 0 = 1 ∧ bt S 7 = 0 ∧ F = cutM N A B cap S ∧ ∀ T : Nat, T < 256 → bt T 0 = 1 → bt T 7 = 0 → F ≤ cutM N A B cap T ∧ (F = cutM N A B cap T → ∀ v : Int, 0 ≤ v → v ≤ 7 → bt S v = 1 → bt T v = 1)
theorem flow_min {N : Nat} {A B R g cap : Nat → Int} {cb : Int → Int} {S : Nat} (hA : ∀ p, p < N → 0 ≤ A p ∧ A p ≤ 7) (hB : ∀ p, p < N → 0 ≤ B p ∧ B p ≤ 7) (hg : ∀ p, p < N → 0 ≤ R p ∧ 0 ≤ g p ∧ R p + g p = cap p) (hx : ∀ v : Int, 0 < v → v < 7 → exv N A B g v = 0) (hS : S < 256) (h0 : bt S 0 = 1) (h7 : bt S 7 = 0) (ht : treeM N A B R g cb S) (hc : ∀ p, p < N → closM A B R g S p) : minM N A B cap (exv N A B g 7) S := by
  have pt : ∀ (T : Nat) (p : Nat), p < N → bt T (A p) * g p - bt T (B p) * g p ≤ (if bt T (A p) = 1 then if bt T (B p) = 1 then 0 else cap p else 0) := by
    intro T p hp
    have := hg p hp
    rcases bt_01 T (A p) with a | a <;> rcases bt_01 T (B p) with b | b <;> rw [a, b] <;> simp <;> omega
  refine ⟨hS, h0, h7, ?_, fun T hT t0 t7 => ⟨?_, fun he v v0 v7 hv => ?_⟩⟩
  · rw [flow_val hA hB hx S h0 h7]
    refine sm_congr (fun p hp => ?_)
    have := hg p hp
    obtain ⟨c1, c2⟩ := hc p hp
    rcases bt_01 S (A p) with a | a <;> rcases bt_01 S (B p) with b | b <;> rw [a, b] at c1 c2 ⊢ <;> simp at c1 c2 ⊢ <;> omega
  · rw [flow_val hA hB hx T t0 t7]
    exact sm_le (pt T)
  · rw [flow_val hA hB hx T t0 t7] at he
    have pe := sm_eq_pt (pt T) he
    obtain ⟨rk, hrk⟩ := ht
    have : ∀ (r : Nat) (v : Int), rk v ≤ r → 0 ≤ v → v ≤ 7 → bt S v = 1 → bt T v = 1 := by
      intro r
      induction r with
      | zero =>
        intro v hr v0 v7 hv
        by_cases e : v = 0
        · rw [e]; exact t0
        · obtain ⟨p, hp, hq⟩ := hrk v (by omega) v7 hv
          exfalso
          rcases hq with ⟨-, -, -, q, -⟩ | ⟨-, -, -, q, -⟩ <;> omega
      | succ r ih =>
        intro v hr v0 v7 hv
        by_cases e : v = 0
        · rw [e]; exact t0
        · obtain ⟨p, hp, hq⟩ := hrk v (by omega) v7 hv
          have pp := pe p hp
          have a1 := hA p hp
          have b1 := hB p hp
          have g1 := hg p hp
          rcases hq with ⟨-, x2, x3, x4, x5⟩ | ⟨-, x2, x3, x4, x5⟩
          · have := ih (A p) (by omega) a1.1 a1.2 x3
            rw [this] at pp
            rw [← x2]
            rcases bt_01 T (B p) with b | b
            · exfalso
              rw [b] at pp
              simp at pp
              omega
            · exact b
          · have := ih (B p) (by omega) b1.1 b1.2 x3
            rw [this] at pp
            rw [← x2]
            rcases bt_01 T (A p) with b | b
            · exfalso
              rw [b] at pp
              simp at pp
              omega
            · exact b
    exact this (rk v) v (Nat.le_refl _) v0 v7 hv
/-- what a path bears, with one more on a told one: model -/
def brM (h : bg_G) (held one : Int) (p : Nat) : Int := bearM h held p (if (p : Int) = one then 1 else 0)
theorem bearM_rg {h : bg_G} (ho : okM h) {held b : Int} {p : Nat} (hp : p < 12) (hb : 0 ≤ b ∧ b ≤ 1) : 0 ≤ bearM h held p b ∧ bearM h held p b ≤ 100 := by
  obtain ⟨-, hr, -⟩ := ho
  have := hr p hp
  unfold bearM
  have := bear_rg (a := h 118 (7 * p + 2)) (z := h 118 (7 * p + 5)) (b := b) (by omega) (by omega) hb
  split <;> omega
theorem brM_rg {h : bg_G} (ho : okM h) {held one : Int} {p : Nat} (hp : p < 12) : 0 ≤ brM h held one p ∧ brM h held one p ≤ 100 := by
  unfold brM
  refine bearM_rg ho hp ?_
  split <;> omega
theorem bearM_fr {h h' : bg_G} {held b : Int} {p : Nat} (e : h' 118 = h 118) : bearM h' held p b = bearM h held p b := by
  unfold bearM
  rw [e]
theorem okM_fr {h h' : bg_G} (ho : okM h) (e1 : h' 117 = h 117) (e2 : h' 118 = h 118) (e3 : h' 119 = h 119) (e4 : h' 120 = h 120) (e5 : h' 121 = h 121) : okM h' := by
  unfold okM at *
  rw [e1, e2, e3, e4, e5]
  exact ho
theorem s_mflow (d n N : Nat) (held one : Int) (h : bg_G) (ho : okM h) (hN : (N : Int) = h 117 0) (h1 : -4 ≤ one ∧ one ≤ 12) (Rt : bg_R) (hR : ∀ (h' : bg_G) (S : Nat) (F : Int), (∀ k, k ≠ 115 → k ≠ 130 → k ≠ 131 → k ≠ 132 → h' k = h k) → (∀ j, j ≠ 23 → h' 115 j = h 115 j) → h' 115 23 = S → minM N (fun p => h 118 (7 * p)) (fun p => h 118 (7 * p + 1)) (brM h held one) F S → 0 ≤ F → F ≤ 1200 → Rt (some (.inl F)) (bg_SH n, h')) : bg_Ca bg_MS (d + 3) 139 [vR 115, vI held, vI one] (bg_SH n, h) Rt := by
  have hn := ho.1.1
  have hrow := ho.2.1
  refine bg_ca (cd := cd_X9_flow) rfl rfl ?_
  intro X hX
  obtain ⟨A, hA⟩ : ∃ A : Nat → Int, A = fun p : Nat => h 118 (7 * p) := ⟨_, rfl⟩
  obtain ⟨B, hB⟩ : ∃ B : Nat → Int, B = fun p : Nat => h 118 (7 * p + 1) := ⟨_, rfl⟩
  have rA : ∀ p, p < N → 0 ≤ A p ∧ A p ≤ 7 := fun p hp => by have := hrow p (by omega); rw [hA]; show 0 ≤ h 118 (7 * p) ∧ h 118 (7 * p) ≤ 7; omega
  have rB : ∀ p, p < N → 0 ≤ B p ∧ B p ≤ 7 := fun p hp => by have := hrow p (by omega); rw [hB]; show 0 ≤ h 118 (7 * p + 1) ∧ h 118 (7 * p + 1) ≤ 7; omega
  rw [← hA, ← hB] at hR
  have cap := fun p (hp : p < N) => brM_rg ho (held := held) (one := one) (p := p) (by omega)
  obtain ⟨inv, hinv⟩ : ∃ inv : bg_G → Prop, inv = fun (h' : bg_G) => (∀ k, k ≠ 115 → k ≠ 130 → k ≠ 131 → k ≠ 132 → h' k = h k) ∧ (∀ j, j ≠ 23 → h' 115 j = h 115 j) ∧ (∀ p : Nat, p < N → 0 ≤ h' 130 p ∧ 0 ≤ h' 131 p ∧ h' 130 p + h' 131 p = brM h held one p) ∧ (∀ v : Int, 0 < v → v < 7 → exv N A B (fun p => h' 131 p) v = 0) ∧ 0 ≤ exv N A B (fun p => h' 131 p) 7 := ⟨_, rfl⟩
  have up : ∀ h', inv h' → exv N A B (fun p => h' 131 p) 7 ≤ 1200 := by
    intro h' hi
    rw [hinv] at hi
    obtain ⟨f1, f2, f3, f4, f5⟩ := hi
    have e1 : exv N A B (fun p => h' 131 p) 7 ≤ sm N (fun _ => 100) := sm_le (fun p hp => by
      have := f3 p hp
      have := cap p hp
      show (if B p = 7 then h' 131 p else 0) - (if A p = 7 then h' 131 p else 0) ≤ 100
      split <;> split <;> omega)
    have e2 := (sm_rg (n := N) (f := fun _ => 100) (B := 100) (fun _ _ => ⟨by show (0 : Int) ≤ 100; omega, Int.le_refl _⟩)).2
    omega
  have pass : ∀ (h' : bg_G), inv h' → (∀ h'', inv h'' → exv N A B (fun p => h' 131 p) 7 + 1 ≤ exv N A B (fun p => h'' 131 p) 7 → X (49, [oR 115, oI held, oI one, oI (exv N A B (fun p => h'' 131 p) 7)], [], (bg_SH n, h''), (0, 0))) → X (49, [oR 115, oI held, oI one, oI (exv N A B (fun p => h' 131 p) 7)], [], (bg_SH n, h'), (0, 0)) := by
    intro h' hi K
    have u1 := up h' hi
    have hi' := hi
    rw [hinv] at hi
    obtain ⟨f1, f2, f3, f4, f5⟩ := hi
    have e116 := f1 117 (by omega) (by omega) (by omega) (by omega)
    have e117 := f1 118 (by omega) (by omega) (by omega) (by omega)
    have ho' : okM h' := okM_fr ho e116 e117 (f1 119 (by omega) (by omega) (by omega) (by omega)) (f1 120 (by omega) (by omega) (by omega) (by omega)) (f1 121 (by omega) (by omega) (by omega) (by omega))
    have hr' : ∀ p : Nat, p < N → (0 ≤ h' 130 p ∧ h' 130 p ≤ 1000) ∧ (0 ≤ h' 131 p ∧ h' 131 p ≤ 1000) := fun p hp => by
      have := f3 p hp
      have := cap p hp
      omega
    refine hX _ ?_; conv => whnf
    refine hX _ ?_; conv => whnf
    try simp (disch := omega) only [bg_w_id, Int.toNat_natCast, rw_land, sh_land, not_true_eq_false]
    refine s_mspread d n N h' ho' (by rw [e116]; exact hN) hr' _ (fun h2 S g1 g2 g3 g4 g5 g6 g7 => ?_)
    rw [e117, ← hA, ← hB] at g6 g7
    have x129 := g1 130 (by omega) (by omega)
    have x130 := g1 131 (by omega) (by omega)
    conv => whnf
    refine hX _ ?_; conv => whnf
    refine ⟨fun q53 => ?_, fun q53 => ?_⟩
    · try simp (disch := omega) only [bg_w_id, Int.toNat_natCast, rw_land, sh_land, not_true_eq_false, kc0, kc1, kc2, kc3, kc4, kc5, kc6, kc7, kc8, kc9, kc10, kc11, kc12, kc13, kc14, kc15, kc16, kc17, kc18, kc19, kc20, kc21, kc22, kc23, kc24, kc25, kc26, kc27, kc28, kc29, kc30, kc31, kc32, kc33] at q53
      try rw [bt_w] at q53
      refine hX _ ?_; conv => whnf
      refine hX _ ?_; conv => whnf
      refine hR h2 S _ (fun k a1 a2 a3 a4 => ?_) (fun j hj => ?_) g5 ?_ f5 u1
      · rw [g1 k a1 a4]; exact f1 k a1 a2 a3 a4
      · rw [g2 j hj]; exact f2 j hj
      · exact flow_min rA rB f3 f4 g3 g4 q53 g6 g7
    · try simp (disch := omega) only [bg_w_id, Int.toNat_natCast, rw_land, sh_land, not_true_eq_false, kc0, kc1, kc2, kc3, kc4, kc5, kc6, kc7, kc8, kc9, kc10, kc11, kc12, kc13, kc14, kc15, kc16, kc17, kc18, kc19, kc20, kc21, kc22, kc23, kc24, kc25, kc26, kc27, kc28, kc29, kc30, kc31, kc32, kc33] at q53
      try rw [bt_w] at q53
      have q53 := (bt_01 S 7).resolve_left q53
      iterate 2 (refine hX _ ?_; conv => whnf)
      refine hX _ ?_; conv => whnf
      try simp (disch := omega) only [bg_w_id, Int.toNat_natCast, rw_land, sh_land, not_true_eq_false]
      refine s_mpush (d + 1) n N S h2 (okM_fr ho' (g1 _ (by omega) (by omega)) (g1 _ (by omega) (by omega)) (g1 _ (by omega) (by omega)) (g1 _ (by omega) (by omega)) (g1 _ (by omega) (by omega))) (by rw [g1 117 (by omega) (by omega), e116]; exact hN) (by rw [x129, x130]; exact hr') q53 (by rw [g1 118 (by omega) (by omega), e117, ← hA, ← hB, x129, x130]; exact g6) _ (fun h3 m m1 m2 k1 k2 k3 => ?_)
      rw [g1 118 (by omega) (by omega), e117, ← hA, ← hB, x130] at k3
      rw [x129, x130] at k2
      conv => whnf
      iterate 3 (refine hX _ ?_; conv => whnf)
      have K2 := K h3 (by
          rw [hinv]
          refine ⟨fun k a1 a2 a3 a4 => ?_, fun j hj => ?_, fun p hp => ?_, fun v v0 v7 => ?_, ?_⟩
          · rw [k1 k a2 a3, g1 k a1 a4]; exact f1 k a1 a2 a3 a4
          · rw [k1 115 (by omega) (by omega), g2 j hj]; exact f2 j hj
          · have := k2 p hp; have := f3 p hp; omega
          · rw [k3 v, f4 v v0 v7, if_neg (by omega), if_neg (by omega)]; rfl
          · rw [k3 7, if_pos rfl, if_neg (by omega)]; omega) (by rw [k3 7, if_pos rfl, if_neg (by omega)]; omega)
      rw [k3 7, if_pos rfl, if_neg (by omega), Int.sub_zero] at K2
      exact K2
  have l2 : ∀ (f : Nat) (h' : bg_G), inv h' → 1200 ≤ exv N A B (fun p => h' 131 p) 7 + f → X (49, [oR 115, oI held, oI one, oI (exv N A B (fun p => h' 131 p) 7)], [], (bg_SH n, h'), (0, 0)) := by
    intro f
    induction f with
    | zero => exact fun h' hi hf => pass h' hi (fun h'' hi' hle => absurd (up h'' hi') (by omega))
    | succ f ih => exact fun h' hi hf => pass h' hi (fun h'' hi' hle => ih h'' hi' (by omega))
  have l1 : ∀ p, p ≤ N → ∀ h' : bg_G, (∀ k, k ≠ 130 → k ≠ 131 → h' k = h k) → (∀ p' : Nat, p' < p → h' 130 p' = brM h held one p' ∧ h' 131 p' = 0) → X (2, [oR 115, oI held, oI one, oI (p : Int)], [], (bg_SH n, h'), (0, 0)) := by
    refine lp_up N _ ?_ (fun p hp ih => ?_)
    · intro h' f1 f2
      have e116 := f1 117 (by omega) (by omega)
      have ex : ∀ v, exv N A B (fun p => h' 131 p) v = 0 := fun v => by
        unfold exv
        rw [sm_congr (g := fun _ => 0) (fun p hp => by simp [(f2 p hp).2])]
        exact sm_zero
      iterate 4 (refine hX _ ?_; conv => whnf)
      refine hX _ ?_; conv => whnf
      try (simp (disch := omega) only [bg_w_id, Int.toNat_natCast, rw_land, sh_land, not_true_eq_false, e116]; try conv => whnf)
      refine ⟨by first | omega | (simp (disch := omega) only [bg_w_id, Int.toNat_natCast, rw_land, sh_land, not_true_eq_false, e116]; omega), ?_⟩
      refine hX _ ?_; conv => whnf
      refine ⟨fun q9 => ?_, fun q9 => ?_⟩
      · try simp (disch := omega) only [bg_w_id, Int.toNat_natCast, rw_land, sh_land, not_true_eq_false, e116, kc0, kc1, kc2, kc3, kc4, kc5, kc6, kc7, kc8, kc9, kc10, kc11, kc12, kc13, kc14, kc15, kc16, kc17, kc18, kc19, kc20, kc21, kc22, kc23, kc24, kc25, kc26, kc27, kc28, kc29, kc30, kc31, kc32, kc33] at q9
        iterate 2 (refine hX _ ?_; conv => whnf)
        have := l2 1200 h' (by
            rw [hinv]
            refine ⟨fun k _ a1 a2 _ => f1 k a1 a2, fun j _ => by rw [f1 115 (by omega) (by omega)], fun p hp => ?_, fun v _ _ => ex v, by rw [ex]; omega⟩
            have := f2 p hp
            have := cap p hp
            omega) (by rw [ex]; omega)
        rw [ex] at this
        exact this
      · exfalso
        (try simp (disch := omega) only [bg_w_id, Int.toNat_natCast, rw_land, sh_land, not_true_eq_false, e116, kc0, kc1, kc2, kc3, kc4, kc5, kc6, kc7, kc8, kc9, kc10, kc11, kc12, kc13, kc14, kc15, kc16, kc17, kc18, kc19, kc20, kc21, kc22, kc23, kc24, kc25, kc26, kc27, kc28, kc29, kc30, kc31, kc32, kc33] at q9) <;> (omega)
    · intro h' f1 f2
      have e116 := f1 117 (by omega) (by omega)
      have e117 := f1 118 (by omega) (by omega)
      have fin : ∀ b : Int, b = (if (p : Int) = one then 1 else 0) → X (2, [oR 115, oI held, oI one, oI ((p : Int) + 1)], [], (bg_SH n, bg_up (bg_up h' 130 p (bearM h' held p b)) 131 p 0), (0, 0)) := by
        intro b hb
        refine ih _ (fun k a1 a2 => ?_) (fun p' hp' => ?_)
        · rw [bg_up_ne a2, bg_up_ne a1]; exact f1 k a1 a2
        · by_cases e : p' = p
          · subst e
            rw [bg_up_self, bg_up_ne (by omega), bg_up_self, hb, bearM_fr e117]
            exact ⟨rfl, rfl⟩
          · have := f2 p' (by omega)
            rw [bg_up_ne (k := 131) (by omega), bg_up_nj (by omega), bg_up_nj (by omega), bg_up_ne (by omega)]
            exact this
      iterate 4 (refine hX _ ?_; conv => whnf)
      refine hX _ ?_; conv => whnf
      try (simp (disch := omega) only [bg_w_id, Int.toNat_natCast, rw_land, sh_land, not_true_eq_false, e116]; try conv => whnf)
      refine ⟨by first | omega | (simp (disch := omega) only [bg_w_id, Int.toNat_natCast, rw_land, sh_land, not_true_eq_false, e116]; omega), ?_⟩
      refine hX _ ?_; conv => whnf
      refine ⟨fun q9 => ?_, fun q9 => ?_⟩
      · exfalso
        (try simp (disch := omega) only [bg_w_id, Int.toNat_natCast, rw_land, sh_land, not_true_eq_false, e116, kc0, kc1, kc2, kc3, kc4, kc5, kc6, kc7, kc8, kc9, kc10, kc11, kc12, kc13, kc14, kc15, kc16, kc17, kc18, kc19, kc20, kc21, kc22, kc23, kc24, kc25, kc26, kc27, kc28, kc29, kc30, kc31, kc32, kc33] at q9) <;> (omega)
      · try simp (disch := omega) only [bg_w_id, Int.toNat_natCast, rw_land, sh_land, not_true_eq_false, e116, kc0, kc1, kc2, kc3, kc4, kc5, kc6, kc7, kc8, kc9, kc10, kc11, kc12, kc13, kc14, kc15, kc16, kc17, kc18, kc19, kc20, kc21, kc22, kc23, kc24, kc25, kc26, kc27, kc28, kc29, kc30, kc31, kc32, kc33] at q9
        iterate 8 (refine hX _ ?_; conv => whnf)
        refine hX _ ?_; conv => whnf
        refine ⟨fun q22 => ?_, fun q22 => ?_⟩
        · try simp (disch := omega) only [bg_w_id, Int.toNat_natCast, rw_land, sh_land, not_true_eq_false, e116, kc0, kc1, kc2, kc3, kc4, kc5, kc6, kc7, kc8, kc9, kc10, kc11, kc12, kc13, kc14, kc15, kc16, kc17, kc18, kc19, kc20, kc21, kc22, kc23, kc24, kc25, kc26, kc27, kc28, kc29, kc30, kc31, kc32, kc33] at q22
          refine hX _ ?_; conv => whnf
          refine hX _ ?_; conv => whnf
          try simp (disch := omega) only [bg_w_id, Int.toNat_natCast, rw_land, sh_land, not_true_eq_false, e116]
          refine s_mbearsWith d _ _ (by omega) _ _ _ _ ?_
          conv => whnf
          refine hX _ ?_; conv => whnf
          try (simp (disch := omega) only [bg_w_id, Int.toNat_natCast, rw_land, sh_land, not_true_eq_false, e116]; try conv => whnf)
          refine ⟨by first | omega | (simp (disch := omega) only [bg_w_id, Int.toNat_natCast, rw_land, sh_land, not_true_eq_false, e116]; omega), ?_⟩
          iterate 4 (refine hX _ ?_; conv => whnf)
          refine hX _ ?_; conv => whnf
          try (simp (disch := omega) only [bg_w_id, Int.toNat_natCast, rw_land, sh_land, not_true_eq_false, e116]; try conv => whnf)
          refine ⟨by first | omega | (simp (disch := omega) only [bg_w_id, Int.toNat_natCast, rw_land, sh_land, not_true_eq_false, e116]; omega), ?_⟩
          iterate 2 (refine hX _ ?_; conv => whnf)
          first
          | exact fin 0 (by rw [if_neg (by omega)])
          | exact fin 1 (by rw [if_pos (by omega)])
        · try simp (disch := omega) only [bg_w_id, Int.toNat_natCast, rw_land, sh_land, not_true_eq_false, e116, kc0, kc1, kc2, kc3, kc4, kc5, kc6, kc7, kc8, kc9, kc10, kc11, kc12, kc13, kc14, kc15, kc16, kc17, kc18, kc19, kc20, kc21, kc22, kc23, kc24, kc25, kc26, kc27, kc28, kc29, kc30, kc31, kc32, kc33] at q22
          iterate 2 (refine hX _ ?_; conv => whnf)
          refine hX _ ?_; conv => whnf
          try simp (disch := omega) only [bg_w_id, Int.toNat_natCast, rw_land, sh_land, not_true_eq_false, e116]
          refine s_mbearsWith d _ _ (by omega) _ _ _ _ ?_
          conv => whnf
          refine hX _ ?_; conv => whnf
          try (simp (disch := omega) only [bg_w_id, Int.toNat_natCast, rw_land, sh_land, not_true_eq_false, e116]; try conv => whnf)
          refine ⟨by first | omega | (simp (disch := omega) only [bg_w_id, Int.toNat_natCast, rw_land, sh_land, not_true_eq_false, e116]; omega), ?_⟩
          iterate 4 (refine hX _ ?_; conv => whnf)
          refine hX _ ?_; conv => whnf
          try (simp (disch := omega) only [bg_w_id, Int.toNat_natCast, rw_land, sh_land, not_true_eq_false, e116]; try conv => whnf)
          refine ⟨by first | omega | (simp (disch := omega) only [bg_w_id, Int.toNat_natCast, rw_land, sh_land, not_true_eq_false, e116]; omega), ?_⟩
          iterate 2 (refine hX _ ?_; conv => whnf)
          first
          | exact fin 0 (by rw [if_neg (by omega)])
          | exact fin 1 (by rw [if_pos (by omega)])
  iterate 2 (refine hX _ ?_; conv => whnf)
  exact l1 0 (by omega) h (fun _ _ _ => rfl) (fun p' hp' => absurd hp' (by omega))
