/-! the plans: what is offered, what is best -/
def okN (h : bg_G) (s : Nat) : Prop := okS (h 117 0) (h 119 0) (s : Int) ∧ s < 32768
theorem okN_ex {h : bg_G} (ho : okM h) {s : Nat} (hs : okN h s) : ∃ a b : Nat, a < 2 ^ (h 117 0).toNat ∧ b < 2 ^ (h 119 0).toNat ∧ s = a + 4096 * b ∧ a < 2 ^ 12 ∧ b < 2 ^ 3 := by
  obtain ⟨a, b, ha, hb, e, r⟩ := okS_ex ho (by have := hs.2; omega) hs.1
  exact ⟨a, b, ha, hb, by omega, r⟩
theorem okN_mk {h : bg_G} (ho : okM h) {a b : Nat} (ha : a < 2 ^ (h 117 0).toNat) (hb : b < 2 ^ (h 119 0).toNat) : okN h (a + 4096 * b) := by
  have hn := ho.1
  have ha12 : a < 2 ^ 12 := Nat.lt_of_lt_of_le ha (Nat.pow_le_pow_right (by decide) (by omega))
  have hb8 : b < 2 ^ 3 := Nat.lt_of_lt_of_le hb (Nat.pow_le_pow_right (by decide) (by omega))
  refine ⟨?_, by omega⟩
  rw [show h 117 0 = ((h 117 0).toNat : Int) by omega, show h 119 0 = ((h 119 0).toNat : Int) by omega, okS_iff (by omega) (by omega) (by omega)]
  exact ⟨a, b, ha, hb, rfl⟩
theorem heldN_or (x y : Nat → Nat) (a b : Nat) : ∀ n, heldN x y a b n = a ||| heldN x y 0 b n
  | 0 => by show a = a ||| 0; rw [Nat.or_zero]
  | n + 1 => by
    show heldN x y a b n ||| _ = a ||| (heldN x y 0 b n ||| _)
    rw [heldN_or x y a b n, Nat.or_assoc]
theorem held_split {h : bg_G} (hr : REL h) {a b : Nat} (ha : a < 2 ^ (h 117 0).toNat) (hb : b < 2 ^ (h 119 0).toNat) : ∃ m : Nat, m < 2 ^ (h 117 0).toNat ∧ heldM h ((a + 4096 * b : Nat) : Int) = m ∧ bg_and (bg_or a (heldC h ((4096 * b : Nat) : Int))) 4095 = m := by
  have ho := hr.2.1
  have hn := ho.1
  have hN : 2 ^ (h 117 0).toNat ≤ 2 ^ 12 := Nat.pow_le_pow_right (by decide) (by omega)
  have h1 := heldM_N (np := (h 117 0).toNat) (nt := (h 119 0).toNat) (by omega) (by omega) (by omega) (by omega) ho hr.2.2.1 ha hb
  have h2 := heldM_N (np := (h 117 0).toNat) (nt := (h 119 0).toNat) (by omega) (by omega) (by omega) (by omega) ho hr.2.2.1 (a := 0) (Nat.two_pow_pos _) hb
  have hb8 : b < 2 ^ 3 := Nat.lt_of_lt_of_le hb (Nat.pow_le_pow_right (by decide) (by omega))
  refine ⟨_, h1.2, h1.1, ?_⟩
  have e0 : ((4096 * b : Nat) : Int) = ((0 + 4096 * b : Nat) : Int) := by omega
  rw [e0, held_eq hr (by omega) (okN_mk ho (Nat.two_pow_pos _) hb).1, h2.1, bn_or (by omega) (by omega), show (4095 : Int) = ((4095 : Nat) : Int) from rfl, bn_and (Nat.or_lt_two_pow (n := 31) (by omega) (by omega)) (by omega), show (4095 : Nat) = 2 ^ 12 - 1 from rfl, Nat.and_two_pow_sub_one_eq_mod, heldN_or _ _ a b 3, Nat.mod_eq_of_lt (Nat.or_lt_two_pow (by omega) (by omega))]
theorem cost_split {h : bg_G} (hr : REL h) {a b : Nat} (ha : a < 2 ^ (h 117 0).toNat) (hb : b < 2 ^ (h 119 0).toNat) : costC h ((4096 * b : Nat) : Int) + vS (fun p => h (24 + p) 4) a = costM h ((a + 4096 * b : Nat) : Int) := by
  have ho := hr.2.1
  have hn := ho.1
  have ha12 : a < 2 ^ 12 := Nat.lt_of_lt_of_le ha (Nat.pow_le_pow_right (by decide) (by omega))
  have hb8 : b < 2 ^ 3 := Nat.lt_of_lt_of_le hb (Nat.pow_le_pow_right (by decide) (by omega))
  rw [← cost_eq hr (by omega) (okN_mk ho ha hb).1]
  unfold costC vS
  have e0 : ((4096 * b : Nat) : Int) = ((0 + 4096 * b : Nat) : Int) := by omega
  have z : sm 12 (fun i => bt ((4096 * b : Nat) : Int) i * h (24 + i) 4) = 0 := by
    rw [sm_congr (g := fun _ => 0) (fun i hi => by rw [e0, bt_lo (by omega) hb8 hi]; simp)]
    exact sm_zero
  have e1 : sm 12 (fun i => bt ((a + 4096 * b : Nat) : Int) i * h (24 + i) 4) = sm 12 (fun p => bt (a : Int) p * h (24 + p) 4) := sm_congr (fun i hi => by rw [bt_lo ha12 hb8 hi, bt_tb (by omega) (by omega)])
  have e2 : sm 3 (fun t => bt ((a + 4096 * b : Nat) : Int) (12 + t) * h 37 t) = sm 3 (fun t => bt ((4096 * b : Nat) : Int) (12 + t) * h 37 t) := sm_congr (fun t ht => by
    rw [e0, show (12 + (t : Int)) = ((12 + t : Nat) : Int) by omega, bt_hi ha12 hb8 ht, bt_hi (by omega) hb8 ht])
  rw [z, e1, e2]
  show (0 + sm 3 (fun t => bt ((4096 * b : Nat) : Int) (12 + t) * h 37 t)) + sm 12 (fun p => bt (a : Int) p * h (24 + p) 4) = _
  omega
def mh (h : bg_G) (m : Int) : Int := (mcM h m (-4)).1
def aP (h : bg_G) (m s : Nat) : Prop := okN h s ∧ costM h s ≤ h 121 0 ∧ heldM h s = m
def affI (h h' : bg_G) (cur : Nat) : Prop := ∀ m : Nat, m < 2 ^ (h 117 0).toNat → (h' 48 m = -1 ∧ ∀ s, s < cur → ¬ aP h m s) ∨ (∃ s, s < cur ∧ aP h m s ∧ h' 48 m = s ∧ ∀ s', aP h m s' → s ≤ s')
def bstI (h h' : bg_G) (cur : Nat) : Prop := ∀ c : Nat, c ≤ 300 → (h' 51 c = -1 ∧ h' 52 c = 2147483647 ∧ ∀ s, s < cur → okN h s → costM h s ≠ c) ∨ (∃ s, s < cur ∧ okN h s ∧ costM h s = c ∧ h' 51 c = s ∧ h' 52 c = mostM h s ∧ ∀ s', s' < cur → okN h s' → costM h s' = c → mostM h s < mostM h s' ∨ (mostM h s = mostM h s' ∧ s ≤ s'))
def fr45 (h h' : bg_G) : Prop := ∀ k, ¬ (46 ≤ k ∧ k ≤ 52) → h' k = h k
theorem fr45_okC {h h' : bg_G} (hf : fr45 h h') (ho : okC h) : okC h' := okC_fr ho (fun k a b => hf k (by omega))
theorem s_offerAll (d n b : Nat) (h0 : bg_G) (hr : REL h0) (hb : b < 2 ^ (h0 119 0).toNat) (h : bg_G) (hf : fr45 h0 h) (h6 : h 46 6 = ((2 ^ (h0 117 0).toNat : Nat) : Int)) (hm : ∀ m : Nat, m < 2 ^ (h0 117 0).toNat → h 47 m = mh h0 m) (hs : ∀ m : Nat, m < 2 ^ (h0 117 0).toNat → h 49 m = vS (fun p => h0 (24 + p) 4) m) (ha : affI h0 h (4096 * b)) (hbI : bstI h0 h (4096 * b)) (Rt : bg_R) (hR : ∀ h' : bg_G, (∀ k, k ≠ 48 → k ≠ 51 → k ≠ 52 → h' k = h k) → affI h0 h' (4096 * (b + 1)) → bstI h0 h' (4096 * (b + 1)) → Rt none (bg_SH n, h')) : bg_Ca bg_MS (d + 2) 55 [vR 46, vR 22, vI ((4096 * b : Nat) : Int)] (bg_SH n, h) Rt := by
  have ho := hr.2.1
  have hn := ho.1
  have hM : 2 ^ (h0 117 0).toNat ≤ 4096 := (show 2 ^ (h0 117 0).toNat ≤ 2 ^ 12 from Nat.pow_le_pow_right (by decide) (by omega))
  have hb8 : b < 2 ^ 3 := Nat.lt_of_lt_of_le hb (Nat.pow_le_pow_right (by decide) (by omega))
  obtain ⟨M, eM⟩ : ∃ M : Nat, M = 2 ^ (h0 117 0).toNat := ⟨_, rfl⟩
  rw [← eM] at h6 hm hs hM
  have e5 : h 22 5 = h0 121 0 := by rw [hf 22 (by omega)]; exact hr.2.2.2.1.2.2.1
  have ehC : heldC h ((4096 * b : Nat) : Int) = heldC h0 ((4096 * b : Nat) : Int) := heldC_fr (hf 36 (by omega))
  have ecC : sm 12 (fun i => bt ((4096 * b : Nat) : Int) i * h (24 + i) 4) + sm 3 (fun t => bt ((4096 * b : Nat) : Int) (12 + t) * h 37 t) = costC h0 ((4096 * b : Nat) : Int) := by
    unfold costC
    rw [hf 37 (by omega), sm_congr (fun i hi => by rw [hf (24 + i) (by omega)])]
  obtain ⟨TC, eTC⟩ : ∃ TC : Int, TC = costC h0 ((4096 * b : Nat) : Int) := ⟨_, rfl⟩
  obtain ⟨TH, eTH⟩ : ∃ TH : Int, TH = heldC h0 ((4096 * b : Nat) : Int) := ⟨_, rfl⟩
  have last : ∀ h' : bg_G, affI h0 h' (4096 * b + M) → bstI h0 h' (4096 * b + M) → affI h0 h' (4096 * (b + 1)) ∧ bstI h0 h' (4096 * (b + 1)) := by
    intro h' i1 i2
    have gap : ∀ s, s < 4096 * (b + 1) → okN h0 s → s < 4096 * b + M := by
      intro s h1 h2
      obtain ⟨a', b', ha', hb', e, ha12, hb12⟩ := okN_ex ho h2
      rw [← eM] at ha'
      omega
    constructor
    · intro m hm
      rcases i1 m hm with ⟨x1, x2⟩ | ⟨s, x1, x2⟩
      · exact Or.inl ⟨x1, fun s hs hp => x2 s (gap s hs hp.1) hp⟩
      · exact Or.inr ⟨s, by omega, x2⟩
    · intro c hc
      rcases i2 c hc with ⟨x1, x2, x3⟩ | ⟨s, x1, x2, x3, x4, x5, x6⟩
      · exact Or.inl ⟨x1, x2, fun s hs hp => x3 s (gap s hs hp) hp⟩
      · exact Or.inr ⟨s, by omega, x2, x3, x4, x5, fun s' hs' hp => x6 s' (gap s' hs' hp) hp⟩
  refine bg_ca (cd := cd_X4_offerAll) rfl rfl ?_
  intro X hX
  have l1 : ∀ a : Nat, a ≤ M → ∀ (h' : bg_G) (j6 j7 : Option bg_V), (∀ k, k ≠ 48 → k ≠ 51 → k ≠ 52 → h' k = h k) → affI h0 h' (4096 * b + a) → bstI h0 h' (4096 * b + a) → X (16, [oR 46, oR 22, oI ((4096 * b : Nat) : Int), oI TH, oI TC, oI (a : Int), j6, j7], [], (bg_SH n, h'), (0, 0)) := by
    refine lp_up M _ ?_ (fun a hlt ih => ?_)
    · intro h' j6 j7 f1 f2 f3
      have e45 := f1 46 (by omega) (by omega) (by omega)
      obtain ⟨g1, g2⟩ := last h' f2 f3
      iterate 3 (refine hX _ ?_; conv => whnf)
      try simp only [kc0, kc1, kc2, kc3, kc4, kc5, kc6, kc7, kc8, kc9, kc10, kc11, kc12, kc13, kc14, kc15, kc16, kc17, kc18, kc19, kc20, kc21, kc22, kc23, kc24, kc25, kc26, kc27, kc28, kc29, kc30, kc31, kc32, kc33]
      refine hX _ ?_; conv => whnf
      refine ⟨fun q22 => ?_, fun q22 => ?_⟩
      · try simp (disch := omega) only [bg_w_id, Int.toNat_natCast, rw_land, sh_land, not_true_eq_false, e45, h6, kc0, kc1, kc2, kc3, kc4, kc5, kc6, kc7, kc8, kc9, kc10, kc11, kc12, kc13, kc14, kc15, kc16, kc17, kc18, kc19, kc20, kc21, kc22, kc23, kc24, kc25, kc26, kc27, kc28, kc29, kc30, kc31, kc32, kc33] at q22
        refine hX _ ?_; conv => whnf
        exact hR h' f1 g1 g2
      · exfalso
        (try simp (disch := omega) only [bg_w_id, Int.toNat_natCast, rw_land, sh_land, not_true_eq_false, e45, h6, kc0, kc1, kc2, kc3, kc4, kc5, kc6, kc7, kc8, kc9, kc10, kc11, kc12, kc13, kc14, kc15, kc16, kc17, kc18, kc19, kc20, kc21, kc22, kc23, kc24, kc25, kc26, kc27, kc28, kc29, kc30, kc31, kc32, kc33] at q22) <;> (omega)
    · intro h' j6 j7 f1 f2 f3
      have e45 := f1 46 (by omega) (by omega) (by omega)
      have e22 := f1 22 (by omega) (by omega) (by omega)
      have e48 := f1 49 (by omega) (by omega) (by omega)
      have e46 := f1 47 (by omega) (by omega) (by omega)
      obtain ⟨m, hm1, hm2, hm3⟩ := held_split hr (a := a) (b := b) (by omega) hb
      have hc1 := cost_split hr (a := a) (b := b) (by omega) hb
      have hok := okN_mk ho (a := a) (b := b) (by omega) hb
      have epo : bg_or (a : Int) ((4096 * b : Nat) : Int) = ((a + 4096 * b : Nat) : Int) := by
        rw [bn_or (by omega) (by omega)]
        congr 1
        rw [show 4096 * b = 2 ^ 12 * b from rfl, Nat.or_comm, ← Nat.two_pow_add_eq_or_of_lt (by omega), Nat.add_comm]
      rw [← eTC, ← hs a hlt] at hc1
      rw [← eTH] at hm3
      have ev46 : h 47 m = mostM h0 ((a + 4096 * b : Nat) : Int) := by
        rw [hm m (by omega)]
        unfold mh mostM
        rw [hm2]
      obtain ⟨s, es⟩ : ∃ s : Nat, s = a + 4096 * b := ⟨_, rfl⟩
      rw [← es] at hm2 hc1 hok epo ev46
      have rc := costM_rg ho (s : Int)
      have rm := mostM_rg ho (s : Int)
      obtain ⟨c, ec⟩ : ∃ c : Nat, costM h0 (s : Int) = c := ⟨(costM h0 (s : Int)).toNat, by omega⟩
      rw [ec] at hc1 rc
      have m4 : m < 4096 := by omega
      -- affordable
      have A : ∀ h2 : bg_G, affI h0 h2 (4096 * b + a) → ((c : Int) ≤ h0 121 0 → h2 48 m ≠ -1) → affI h0 h2 (4096 * b + (a + 1)) := by
        intro h2 i1 i2 m' hm'
        rcases i1 m' hm' with ⟨x1, x2⟩ | ⟨s', x1, x2⟩
        · refine Or.inl ⟨x1, fun s' hs' hp => ?_⟩
          by_cases e : s' = s
          · subst e
            obtain ⟨p1, p2, p3⟩ := hp
            have : m' = m := by omega
            subst this
            exact i2 (by omega) x1
          · exact x2 s' (by omega) hp
        · exact Or.inr ⟨s', by omega, x2⟩
      have A2 : ∀ h2 : bg_G, affI h0 h2 (4096 * b + a) → (c : Int) ≤ h0 121 0 → h2 48 m = -1 → affI h0 (bg_up h2 48 m (s : Int)) (4096 * b + (a + 1)) := by
        intro h2 i1 i2 i3 m' hm'
        by_cases e : m' = m
        · subst e
          refine Or.inr ⟨s, by omega, ⟨hok, by omega, hm2⟩, bg_up_self _ _ _ _, fun s' hp => ?_⟩
          rcases i1 m' hm' with ⟨x1, x2⟩ | ⟨s2, x1, x2, x3, x4⟩
          · refine Decidable.byContradiction (fun c => x2 s' (by omega) hp)
          · rw [i3] at x3; omega
        · rcases i1 m' hm' with ⟨x1, x2⟩ | ⟨s', x1, x2, x3, x4⟩
          · refine Or.inl ⟨by rw [bg_up_nj (by omega)]; exact x1, fun s' hs' hp => ?_⟩
            by_cases e2 : s' = s
            · subst e2
              obtain ⟨p1, p2, p3⟩ := hp
              omega
            · exact x2 s' (by omega) hp
          · exact Or.inr ⟨s', by omega, x2, by rw [bg_up_nj (by omega)]; exact x3, x4⟩
      -- best of a cost
      have B : ∀ h2 : bg_G, bstI h0 h2 (4096 * b + a) → ¬ mostM h0 (s : Int) < h2 52 c → bstI h0 h2 (4096 * b + (a + 1)) := by
        intro h2 i1 i2 c' hc'
        rcases i1 c' hc' with ⟨x1, x2, x3⟩ | ⟨s', x1, x2, x3, x4, x5, x6⟩
        · refine Or.inl ⟨x1, x2, fun s' hs' hp hq => ?_⟩
          by_cases e : s' = s
          · subst e
            have : c' = c := by omega
            subst this
            omega
          · exact x3 s' (by omega) hp hq
        · refine Or.inr ⟨s', by omega, x2, x3, x4, x5, fun s2 hs2 hp hq => ?_⟩
          by_cases e : s2 = s
          · subst e
            have : c' = c := by omega
            subst this
            omega
          · exact x6 s2 (by omega) hp hq
      have B2 : ∀ h2 : bg_G, bstI h0 h2 (4096 * b + a) → mostM h0 (s : Int) < h2 52 c → bstI h0 (bg_up (bg_up h2 52 c (mostM h0 (s : Int))) 51 c (s : Int)) (4096 * b + (a + 1)) := by
        intro h2 i1 i2 c' hc'
        by_cases e : c' = c
        · subst e
          refine Or.inr ⟨s, by omega, hok, ec, bg_up_self _ _ _ _, by rw [bg_up_ne (by omega), bg_up_self], fun s' hs' hp hq => ?_⟩
          by_cases e2 : s' = s
          · subst e2; exact Or.inr ⟨rfl, Nat.le_refl _⟩
          · rcases i1 c' hc' with ⟨x1, x2, x3⟩ | ⟨s3, x1, x2, x3, x4, x5, x6⟩
            · exact absurd hq (x3 s' (by omega) hp)
            · have := x6 s' (by omega) hp hq
              left
              omega
        · rcases i1 c' hc' with ⟨x1, x2, x3⟩ | ⟨s', x1, x2, x3, x4, x5, x6⟩
          · refine Or.inl ⟨by rw [bg_up_nj (by omega), bg_up_ne (by omega)]; exact x1, by rw [bg_up_ne (by omega), bg_up_nj (by omega)]; exact x2, fun s' hs' hp hq => ?_⟩
            by_cases e2 : s' = s
            · subst e2; omega
            · exact x3 s' (by omega) hp hq
          · refine Or.inr ⟨s', by omega, x2, x3, by rw [bg_up_nj (by omega), bg_up_ne (by omega)]; exact x4, by rw [bg_up_ne (by omega), bg_up_nj (by omega)]; exact x5, fun s2 hs2 hp hq => ?_⟩
            by_cases e2 : s2 = s
            · subst e2; omega
            · exact x6 s2 (by omega) hp hq
      have bfr : ∀ h2 : bg_G, h2 51 = h' 51 → h2 52 = h' 52 → bstI h0 h2 (4096 * b + a) := by
        intro h2 e1 e2 c' hc'
        rw [e1, e2]
        exact f3 c' hc'
      have afr : ∀ (h1 h2 : bg_G) (cur : Nat), h2 48 = h1 48 → affI h0 h1 cur → affI h0 h2 cur := by
        intro h1 h2 cur e1 i m' hm'
        rw [e1]
        exact i m' hm'
      have r47 : -1 ≤ h' 48 m ∧ h' 48 m ≤ 32768 := by
        rcases f2 m hm1 with ⟨x1, x2⟩ | ⟨s', x1, x2, x3, x4⟩
        · omega
        · have := x2.1.2; omega
      have r51 : 0 ≤ h' 52 c ∧ h' 52 c ≤ 2147483647 := by
        rcases f3 c (by omega) with ⟨x1, x2, x3⟩ | ⟨s', x1, x2, x3, x4, x5, x6⟩
        · omega
        · have := mostM_rg ho (s' : Int); omega
      -- the second half
      have half : ∀ (h2 : bg_G), (∀ k, k ≠ 48 → k ≠ 51 → k ≠ 52 → h2 k = h k) → h2 51 = h' 51 → h2 52 = h' 52 → affI h0 h2 (4096 * b + (a + 1)) → X (78, [oR 46, oR 22, oI ((4096 * b : Nat) : Int), oI TH, oI TC, oI (a : Int), oI (m : Int), oI (c : Int)], [], (bg_SH n, h2), (0, 0)) := by
        intro h2 g1 g2 g3 g4
        have x46 := g1 47 (by omega) (by omega) (by omega)
        have x51 : h2 52 c = h' 52 c := by rw [g3]
        refine hX _ ?_; conv => whnf
        refine hX _ ?_; conv => whnf
        refine ⟨fun q80 => ?_, fun q80 => ?_⟩
        · exfalso
          (try simp (disch := omega) only [bg_w_id, Int.toNat_natCast, rw_land, sh_land, not_true_eq_false, x46, ev46, x51, kc0, kc1, kc2, kc3, kc4, kc5, kc6, kc7, kc8, kc9, kc10, kc11, kc12, kc13, kc14, kc15, kc16, kc17, kc18, kc19, kc20, kc21, kc22, kc23, kc24, kc25, kc26, kc27, kc28, kc29, kc30, kc31, kc32, kc33] at q80) <;> (omega)
        · try simp (disch := omega) only [bg_w_id, Int.toNat_natCast, rw_land, sh_land, not_true_eq_false, x46, ev46, x51, kc0, kc1, kc2, kc3, kc4, kc5, kc6, kc7, kc8, kc9, kc10, kc11, kc12, kc13, kc14, kc15, kc16, kc17, kc18, kc19, kc20, kc21, kc22, kc23, kc24, kc25, kc26, kc27, kc28, kc29, kc30, kc31, kc32, kc33] at q80
          iterate 2 (refine hX _ ?_; conv => whnf)
          refine hX _ ?_; conv => whnf
          refine ⟨fun q88 => ?_, fun q88 => ?_⟩
          · exfalso
            (try simp (disch := omega) only [bg_w_id, Int.toNat_natCast, rw_land, sh_land, not_true_eq_false, x46, ev46, x51, kc0, kc1, kc2, kc3, kc4, kc5, kc6, kc7, kc8, kc9, kc10, kc11, kc12, kc13, kc14, kc15, kc16, kc17, kc18, kc19, kc20, kc21, kc22, kc23, kc24, kc25, kc26, kc27, kc28, kc29, kc30, kc31, kc32, kc33] at q88) <;> (omega)
          · try simp (disch := omega) only [bg_w_id, Int.toNat_natCast, rw_land, sh_land, not_true_eq_false, x46, ev46, x51, kc0, kc1, kc2, kc3, kc4, kc5, kc6, kc7, kc8, kc9, kc10, kc11, kc12, kc13, kc14, kc15, kc16, kc17, kc18, kc19, kc20, kc21, kc22, kc23, kc24, kc25, kc26, kc27, kc28, kc29, kc30, kc31, kc32, kc33] at q88
            iterate 3 (refine hX _ ?_; conv => whnf)
            refine hX _ ?_; conv => whnf
            try (simp (disch := omega) only [bg_w_id, Int.toNat_natCast, rw_land, sh_land, not_true_eq_false, x46, ev46, x51]; try conv => whnf)
            refine ⟨by first | omega | (simp (disch := omega) only [bg_w_id, Int.toNat_natCast, rw_land, sh_land, not_true_eq_false, x46, ev46, x51]; omega), ?_⟩
            iterate 3 (refine hX _ ?_; conv => whnf)
            refine hX _ ?_; conv => whnf
            try (simp (disch := omega) only [bg_w_id, Int.toNat_natCast, rw_land, sh_land, not_true_eq_false, x46, ev46, x51]; try conv => whnf)
            refine ⟨by first | omega | (simp (disch := omega) only [bg_w_id, Int.toNat_natCast, rw_land, sh_land, not_true_eq_false, x46, ev46, x51]; omega), ?_⟩
            refine hX _ ?_; conv => whnf
            refine ⟨fun q105 => ?_, fun q105 => ?_⟩
            · try simp (disch := omega) only [bg_w_id, Int.toNat_natCast, rw_land, sh_land, not_true_eq_false, x46, ev46, x51, kc0, kc1, kc2, kc3, kc4, kc5, kc6, kc7, kc8, kc9, kc10, kc11, kc12, kc13, kc14, kc15, kc16, kc17, kc18, kc19, kc20, kc21, kc22, kc23, kc24, kc25, kc26, kc27, kc28, kc29, kc30, kc31, kc32, kc33] at q105
              iterate 2 (refine hX _ ?_; conv => whnf)
              first
              | (refine ih _ _ _ g1 g4 (B h2 (bfr h2 g2 g3) (by omega)))
              | (rw [epo]
                 refine ih _ _ _ (fun k a b c => by rw [bg_up_ne b, bg_up_ne c]; exact g1 k a b c) (afr h2 _ _ (by rw [bg_up_ne (by omega), bg_up_ne (by omega)]) g4) (B2 h2 (bfr h2 g2 g3) (by omega)))
            · try simp (disch := omega) only [bg_w_id, Int.toNat_natCast, rw_land, sh_land, not_true_eq_false, x46, ev46, x51, kc0, kc1, kc2, kc3, kc4, kc5, kc6, kc7, kc8, kc9, kc10, kc11, kc12, kc13, kc14, kc15, kc16, kc17, kc18, kc19, kc20, kc21, kc22, kc23, kc24, kc25, kc26, kc27, kc28, kc29, kc30, kc31, kc32, kc33] at q105
              iterate 6 (refine hX _ ?_; conv => whnf)
              refine hX _ ?_; conv => whnf
              try (simp (disch := omega) only [bg_w_id, Int.toNat_natCast, rw_land, sh_land, not_true_eq_false, x46, ev46, x51]; try conv => whnf)
              refine ⟨by first | omega | (simp (disch := omega) only [bg_w_id, Int.toNat_natCast, rw_land, sh_land, not_true_eq_false, x46, ev46, x51]; omega), ?_⟩
              refine hX _ ?_; conv => whnf
              try (simp (disch := omega) only [bg_w_id, Int.toNat_natCast, rw_land, sh_land, not_true_eq_false, x46, ev46, x51]; try conv => whnf)
              refine ⟨by first | omega | (simp (disch := omega) only [bg_w_id, Int.toNat_natCast, rw_land, sh_land, not_true_eq_false, x46, ev46, x51]; omega), ?_⟩
              iterate 6 (refine hX _ ?_; conv => whnf)
              refine hX _ ?_; conv => whnf
              try (simp (disch := omega) only [bg_w_id, Int.toNat_natCast, rw_land, sh_land, not_true_eq_false, x46, ev46, x51]; try conv => whnf)
              refine ⟨by first | omega | (simp (disch := omega) only [bg_w_id, Int.toNat_natCast, rw_land, sh_land, not_true_eq_false, x46, ev46, x51]; omega), ?_⟩
              iterate 2 (refine hX _ ?_; conv => whnf)
              first
              | (refine ih _ _ _ g1 g4 (B h2 (bfr h2 g2 g3) (by omega)))
              | (rw [epo]
                 refine ih _ _ _ (fun k a b c => by rw [bg_up_ne b, bg_up_ne c]; exact g1 k a b c) (afr h2 _ _ (by rw [bg_up_ne (by omega), bg_up_ne (by omega)]) g4) (B2 h2 (bfr h2 g2 g3) (by omega)))
      iterate 3 (refine hX _ ?_; conv => whnf)
      try simp only [kc0, kc1, kc2, kc3, kc4, kc5, kc6, kc7, kc8, kc9, kc10, kc11, kc12, kc13, kc14, kc15, kc16, kc17, kc18, kc19, kc20, kc21, kc22, kc23, kc24, kc25, kc26, kc27, kc28, kc29, kc30, kc31, kc32, kc33]
      refine hX _ ?_; conv => whnf
      refine ⟨fun q22 => ?_, fun q22 => ?_⟩
      · exfalso
        (try simp (disch := omega) only [bg_w_id, Int.toNat_natCast, rw_land, sh_land, not_true_eq_false, e45, h6, hm3, e48, hc1, e22, e5, kc0, kc1, kc2, kc3, kc4, kc5, kc6, kc7, kc8, kc9, kc10, kc11, kc12, kc13, kc14, kc15, kc16, kc17, kc18, kc19, kc20, kc21, kc22, kc23, kc24, kc25, kc26, kc27, kc28, kc29, kc30, kc31, kc32, kc33] at q22) <;> (omega)
      · try simp (disch := omega) only [bg_w_id, Int.toNat_natCast, rw_land, sh_land, not_true_eq_false, e45, h6, hm3, e48, hc1, e22, e5, kc0, kc1, kc2, kc3, kc4, kc5, kc6, kc7, kc8, kc9, kc10, kc11, kc12, kc13, kc14, kc15, kc16, kc17, kc18, kc19, kc20, kc21, kc22, kc23, kc24, kc25, kc26, kc27, kc28, kc29, kc30, kc31, kc32, kc33] at q22
        iterate 10 (refine hX _ ?_; conv => whnf)
        refine hX _ ?_; conv => whnf
        try (simp (disch := omega) only [bg_w_id, Int.toNat_natCast, rw_land, sh_land, not_true_eq_false, e45, h6, hm3, e48, hc1, e22, e5]; try conv => whnf)
        refine ⟨by first | omega | (simp (disch := omega) only [bg_w_id, Int.toNat_natCast, rw_land, sh_land, not_true_eq_false, e45, h6, hm3, e48, hc1, e22, e5]; omega), ?_⟩
        iterate 5 (refine hX _ ?_; conv => whnf)
        try simp only [kc0, kc1, kc2, kc3, kc4, kc5, kc6, kc7, kc8, kc9, kc10, kc11, kc12, kc13, kc14, kc15, kc16, kc17, kc18, kc19, kc20, kc21, kc22, kc23, kc24, kc25, kc26, kc27, kc28, kc29, kc30, kc31, kc32, kc33]
        refine hX _ ?_; conv => whnf
        refine ⟨fun q53 => ?_, fun q53 => ?_⟩
        · try simp (disch := omega) only [bg_w_id, Int.toNat_natCast, rw_land, sh_land, not_true_eq_false, e45, h6, hm3, e48, hc1, e22, e5, kc0, kc1, kc2, kc3, kc4, kc5, kc6, kc7, kc8, kc9, kc10, kc11, kc12, kc13, kc14, kc15, kc16, kc17, kc18, kc19, kc20, kc21, kc22, kc23, kc24, kc25, kc26, kc27, kc28, kc29, kc30, kc31, kc32, kc33] at q53
          try rw [hc1]
          first
          | (refine half h' f1 rfl rfl (A h' f2 (by omega)))
          | (rw [epo]
             refine half _ (fun k a b c => by rw [bg_up_ne a]; exact f1 k a b c) (bg_up_ne (by omega)) (bg_up_ne (by omega)) (A2 h' f2 (by omega) (by omega)))
        · try simp (disch := omega) only [bg_w_id, Int.toNat_natCast, rw_land, sh_land, not_true_eq_false, e45, h6, hm3, e48, hc1, e22, e5, kc0, kc1, kc2, kc3, kc4, kc5, kc6, kc7, kc8, kc9, kc10, kc11, kc12, kc13, kc14, kc15, kc16, kc17, kc18, kc19, kc20, kc21, kc22, kc23, kc24, kc25, kc26, kc27, kc28, kc29, kc30, kc31, kc32, kc33] at q53
          iterate 3 (refine hX _ ?_; conv => whnf)
          refine hX _ ?_; conv => whnf
          try (simp (disch := omega) only [bg_w_id, Int.toNat_natCast, rw_land, sh_land, not_true_eq_false, e45, h6, hm3, e48, hc1, e22, e5]; try conv => whnf)
          refine ⟨by first | omega | (simp (disch := omega) only [bg_w_id, Int.toNat_natCast, rw_land, sh_land, not_true_eq_false, e45, h6, hm3, e48, hc1, e22, e5]; omega), ?_⟩
          refine hX _ ?_; conv => whnf
          refine hX _ ?_; conv => whnf
          refine ⟨fun q64 => ?_, fun q64 => ?_⟩
          · try simp (disch := omega) only [bg_w_id, Int.toNat_natCast, rw_land, sh_land, not_true_eq_false, e45, h6, hm3, e48, hc1, e22, e5, kc0, kc1, kc2, kc3, kc4, kc5, kc6, kc7, kc8, kc9, kc10, kc11, kc12, kc13, kc14, kc15, kc16, kc17, kc18, kc19, kc20, kc21, kc22, kc23, kc24, kc25, kc26, kc27, kc28, kc29, kc30, kc31, kc32, kc33] at q64
            try rw [hc1]
            first
            | (refine half h' f1 rfl rfl (A h' f2 (by omega)))
            | (rw [epo]
               refine half _ (fun k a b c => by rw [bg_up_ne a]; exact f1 k a b c) (bg_up_ne (by omega)) (bg_up_ne (by omega)) (A2 h' f2 (by omega) (by omega)))
          · try simp (disch := omega) only [bg_w_id, Int.toNat_natCast, rw_land, sh_land, not_true_eq_false, e45, h6, hm3, e48, hc1, e22, e5, kc0, kc1, kc2, kc3, kc4, kc5, kc6, kc7, kc8, kc9, kc10, kc11, kc12, kc13, kc14, kc15, kc16, kc17, kc18, kc19, kc20, kc21, kc22, kc23, kc24, kc25, kc26, kc27, kc28, kc29, kc30, kc31, kc32, kc33] at q64
            iterate 6 (refine hX _ ?_; conv => whnf)
            refine hX _ ?_; conv => whnf
            try (simp (disch := omega) only [bg_w_id, Int.toNat_natCast, rw_land, sh_land, not_true_eq_false, e45, h6, hm3, e48, hc1, e22, e5]; try conv => whnf)
            refine ⟨by first | omega | (simp (disch := omega) only [bg_w_id, Int.toNat_natCast, rw_land, sh_land, not_true_eq_false, e45, h6, hm3, e48, hc1, e22, e5]; omega), ?_⟩
            try rw [hc1]
            first
            | (refine half h' f1 rfl rfl (A h' f2 (by omega)))
            | (rw [epo]
               refine half _ (fun k a b c => by rw [bg_up_ne a]; exact f1 k a b c) (bg_up_ne (by omega)) (bg_up_ne (by omega)) (A2 h' f2 (by omega) (by omega)))
  iterate 2 (refine hX _ ?_; conv => whnf)
  refine hX _ ?_; conv => whnf
  try simp (disch := omega) only [bg_w_id, Int.toNat_natCast, rw_land, sh_land, not_true_eq_false]
  refine s_heldBy d _ _ _ _ ?_
  rw [ehC, ← eTH]
  conv => whnf
  iterate 3 (refine hX _ ?_; conv => whnf)
  refine hX _ ?_; conv => whnf
  try simp (disch := omega) only [bg_w_id, Int.toNat_natCast, rw_land, sh_land, not_true_eq_false]
  refine s_costOf d _ _ _ _ ?_
  rw [ecC, ← eTC]
  conv => whnf
  iterate 3 (refine hX _ ?_; conv => whnf)
  exact l1 0 (by omega) h _ _ (fun _ _ _ _ => rfl) ha hbI
