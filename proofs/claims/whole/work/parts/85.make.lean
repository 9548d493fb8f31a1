/-! the model is made -/
def SHq (n j : Nat) (rs : List (Option Nat)) : List bg_C := ((bg_SH n).take (116 + j)).set 115 (9, 33, rs)
def zrs (h : bg_G) : Nat → bg_G
  | 0 => h
  | j + 1 => bg_zero (zrs h j) (116 + j) 1
theorem zrs_ne {h : bg_G} {k : Nat} (hk : k < 116) : ∀ j, zrs h j k = h k
  | 0 => rfl
  | j + 1 => by
    funext x
    show bg_zero (zrs h j) (116 + j) 1 k x = h k x
    rw [zr_ne (by omega), zrs_ne hk j]
theorem zrs_in {h : bg_G} {k : Nat} (h1 : 116 ≤ k) (x : Int) : ∀ j, k < 116 + j → zrs h j k x = 0
  | 0, hk => absurd hk (by omega)
  | j + 1, hk => by
    show bg_zero (zrs h j) (116 + j) 1 k x = 0
    by_cases c : k < 116 + j
    · rw [zr_ne c, zrs_in h1 x j c]
    · exact zr_in (by omega) (by omega)
set_option maxHeartbeats 10000000 in
set_option maxRecDepth 100000 in
theorem x9_walk (d n : Nat) (h : bg_G) (Rt : bg_R) (hR : ∀ h' : bg_G, (∀ k, k ≤ 115 → h' k = h k) → (∀ k, 116 ≤ k → k < 140 → k ≠ 121 → k ≠ 122 → k ≠ 123 → ∀ j, h' k j = 0) → (h' 121 0 = 0 ∧ h' 121 1 = 100 ∧ h' 121 2 = 0) → (∀ k : Nat, k < 4 → h' 122 k = -1 ∧ h' 123 k = -1) → Rt none (bg_SH n, h')) : bg_Ca bg_MS (d + 2) 9 [vR 115] (S4 n ++ [(9, 33, List.replicate 33 none)], h) Rt := by
  refine bg_ca (cd := cd_X9_init) rfl rfl ?_
  intro X hX
  iterate 2 (refine hX _ ?_; conv => whnf)
  change X (4, _, [], (SHq n 0 [none, none, none, none, none, none, none, none, none, none, none, none, none, none, none, none, none, none, none, none, none, none, none, none, none, none, none, none, none, none, none, none, none], zrs h 0), _)
  iterate 2 (refine hX _ ?_; conv => whnf)
  refine hX _ ?_; conv => whnf
  refine ⟨by first | rfl | decide, ?_⟩
  refine hX _ ?_; conv => whnf
  change X (13, _, [], (SHq n 1 [none, some 116, none, none, none, none, none, none, none, none, none, none, none, none, none, none, none, none, none, none, none, none, none, none, none, none, none, none, none, none, none, none, none], zrs h 1), (1, 400))
  iterate 2 (refine hX _ ?_; conv => whnf)
  refine hX _ ?_; conv => whnf
  refine ⟨by first | rfl | decide, ?_⟩
  refine hX _ ?_; conv => whnf
  change X (20, _, [], (SHq n 2 [none, some 116, some 117, none, none, none, none, none, none, none, none, none, none, none, none, none, none, none, none, none, none, none, none, none, none, none, none, none, none, none, none, none, none], zrs h 2), (2, 404))
  iterate 2 (refine hX _ ?_; conv => whnf)
  refine hX _ ?_; conv => whnf
  refine ⟨by first | rfl | decide, ?_⟩
  refine hX _ ?_; conv => whnf
  change X (29, _, [], (SHq n 3 [none, some 116, some 117, some 118, none, none, none, none, none, none, none, none, none, none, none, none, none, none, none, none, none, none, none, none, none, none, none, none, none, none, none, none, none], zrs h 3), (3, 740))
  iterate 2 (refine hX _ ?_; conv => whnf)
  refine hX _ ?_; conv => whnf
  refine ⟨by first | rfl | decide, ?_⟩
  refine hX _ ?_; conv => whnf
  change X (36, _, [], (SHq n 4 [none, some 116, some 117, some 118, some 119, none, none, none, none, none, none, none, none, none, none, none, none, none, none, none, none, none, none, none, none, none, none, none, none, none, none, none, none], zrs h 4), (4, 744))
  iterate 2 (refine hX _ ?_; conv => whnf)
  refine hX _ ?_; conv => whnf
  refine ⟨by first | rfl | decide, ?_⟩
  refine hX _ ?_; conv => whnf
  change X (44, _, [], (SHq n 5 [none, some 116, some 117, some 118, some 119, some 120, none, none, none, none, none, none, none, none, none, none, none, none, none, none, none, none, none, none, none, none, none, none, none, none, none, none, none], zrs h 5), (5, 780))
  iterate 2 (refine hX _ ?_; conv => whnf)
  refine hX _ ?_; conv => whnf
  refine ⟨by first | rfl | decide, ?_⟩
  refine hX _ ?_; conv => whnf
  change X (52, _, [], (SHq n 6 [none, some 116, some 117, some 118, some 119, some 120, some 121, none, none, none, none, none, none, none, none, none, none, none, none, none, none, none, none, none, none, none, none, none, none, none, none, none, none], zrs h 6), (6, 792))
  iterate 2 (refine hX _ ?_; conv => whnf)
  refine hX _ ?_; conv => whnf
  refine ⟨by first | rfl | decide, ?_⟩
  refine hX _ ?_; conv => whnf
  change X (60, _, [], (SHq n 7 [none, some 116, some 117, some 118, some 119, some 120, some 121, some 122, none, none, none, none, none, none, none, none, none, none, none, none, none, none, none, none, none, none, none, none, none, none, none, none, none], zrs h 7), (7, 804))
  iterate 2 (refine hX _ ?_; conv => whnf)
  refine hX _ ?_; conv => whnf
  refine ⟨by first | rfl | decide, ?_⟩
  refine hX _ ?_; conv => whnf
  change X (68, _, [], (SHq n 8 [none, some 116, some 117, some 118, some 119, some 120, some 121, some 122, some 123, none, none, none, none, none, none, none, none, none, none, none, none, none, none, none, none, none, none, none, none, none, none, none, none], zrs h 8), (8, 816))
  iterate 2 (refine hX _ ?_; conv => whnf)
  refine hX _ ?_; conv => whnf
  refine ⟨by first | rfl | decide, ?_⟩
  refine hX _ ?_; conv => whnf
  change X (76, _, [], (SHq n 9 [none, some 116, some 117, some 118, some 119, some 120, some 121, some 122, some 123, none, some 124, none, none, none, none, none, none, none, none, none, none, none, none, none, none, none, none, none, none, none, none, none, none], zrs h 9), (9, 828))
  iterate 2 (refine hX _ ?_; conv => whnf)
  refine hX _ ?_; conv => whnf
  refine ⟨by first | rfl | decide, ?_⟩
  refine hX _ ?_; conv => whnf
  change X (83, _, [], (SHq n 10 [none, some 116, some 117, some 118, some 119, some 120, some 121, some 122, some 123, none, some 124, some 125, none, none, none, none, none, none, none, none, none, none, none, none, none, none, none, none, none, none, none, none, none], zrs h 10), (10, 832))
  iterate 2 (refine hX _ ?_; conv => whnf)
  refine hX _ ?_; conv => whnf
  refine ⟨by first | rfl | decide, ?_⟩
  refine hX _ ?_; conv => whnf
  change X (92, _, [], (SHq n 11 [none, some 116, some 117, some 118, some 119, some 120, some 121, some 122, some 123, none, some 124, some 125, none, some 126, none, none, none, none, none, none, none, none, none, none, none, none, none, none, none, none, none, none, none], zrs h 11), (11, 4928))
  iterate 2 (refine hX _ ?_; conv => whnf)
  refine hX _ ?_; conv => whnf
  refine ⟨by first | rfl | decide, ?_⟩
  refine hX _ ?_; conv => whnf
  change X (101, _, [], (SHq n 12 [none, some 116, some 117, some 118, some 119, some 120, some 121, some 122, some 123, none, some 124, some 125, none, some 126, none, none, some 127, none, none, none, none, none, none, none, none, none, none, none, none, none, none, none, none], zrs h 12), (12, 5328))
  iterate 2 (refine hX _ ?_; conv => whnf)
  refine hX _ ?_; conv => whnf
  refine ⟨by first | rfl | decide, ?_⟩
  refine hX _ ?_; conv => whnf
  change X (110, _, [], (SHq n 13 [none, some 116, some 117, some 118, some 119, some 120, some 121, some 122, some 123, none, some 124, some 125, none, some 126, none, none, some 127, some 128, none, none, none, none, none, none, none, none, none, none, none, none, none, none, none], zrs h 13), (13, 8128))
  iterate 2 (refine hX _ ?_; conv => whnf)
  refine hX _ ?_; conv => whnf
  refine ⟨by first | rfl | decide, ?_⟩
  refine hX _ ?_; conv => whnf
  change X (118, _, [], (SHq n 14 [none, some 116, some 117, some 118, some 119, some 120, some 121, some 122, some 123, none, some 124, some 125, none, some 126, none, none, some 127, some 128, none, some 129, none, none, none, none, none, none, none, none, none, none, none, none, none], zrs h 14), (14, 8135))
  iterate 2 (refine hX _ ?_; conv => whnf)
  refine hX _ ?_; conv => whnf
  refine ⟨by first | rfl | decide, ?_⟩
  refine hX _ ?_; conv => whnf
  change X (126, _, [], (SHq n 15 [none, some 116, some 117, some 118, some 119, some 120, some 121, some 122, some 123, none, some 124, some 125, none, some 126, none, none, some 127, some 128, none, some 129, some 130, none, none, none, none, none, none, none, none, none, none, none, none], zrs h 15), (15, 8147))
  iterate 2 (refine hX _ ?_; conv => whnf)
  refine hX _ ?_; conv => whnf
  refine ⟨by first | rfl | decide, ?_⟩
  refine hX _ ?_; conv => whnf
  change X (134, _, [], (SHq n 16 [none, some 116, some 117, some 118, some 119, some 120, some 121, some 122, some 123, none, some 124, some 125, none, some 126, none, none, some 127, some 128, none, some 129, some 130, some 131, none, none, none, none, none, none, none, none, none, none, none], zrs h 16), (16, 8159))
  iterate 2 (refine hX _ ?_; conv => whnf)
  refine hX _ ?_; conv => whnf
  refine ⟨by first | rfl | decide, ?_⟩
  refine hX _ ?_; conv => whnf
  change X (142, _, [], (SHq n 17 [none, some 116, some 117, some 118, some 119, some 120, some 121, some 122, some 123, none, some 124, some 125, none, some 126, none, none, some 127, some 128, none, some 129, some 130, some 131, some 132, none, none, none, none, none, none, none, none, none, none], zrs h 17), (17, 8167))
  iterate 2 (refine hX _ ?_; conv => whnf)
  refine hX _ ?_; conv => whnf
  refine ⟨by first | rfl | decide, ?_⟩
  refine hX _ ?_; conv => whnf
  change X (150, _, [], (SHq n 18 [none, some 116, some 117, some 118, some 119, some 120, some 121, some 122, some 123, none, some 124, some 125, none, some 126, none, none, some 127, some 128, none, some 129, some 130, some 131, some 132, none, some 133, none, none, none, none, none, none, none, none], zrs h 18), (18, 8175))
  iterate 2 (refine hX _ ?_; conv => whnf)
  refine hX _ ?_; conv => whnf
  refine ⟨by first | rfl | decide, ?_⟩
  refine hX _ ?_; conv => whnf
  change X (159, _, [], (SHq n 19 [none, some 116, some 117, some 118, some 119, some 120, some 121, some 122, some 123, none, some 124, some 125, none, some 126, none, none, some 127, some 128, none, some 129, some 130, some 131, some 132, none, some 133, some 134, none, none, none, none, none, none, none], zrs h 19), (19, 12271))
  iterate 2 (refine hX _ ?_; conv => whnf)
  refine hX _ ?_; conv => whnf
  refine ⟨by first | rfl | decide, ?_⟩
  refine hX _ ?_; conv => whnf
  change X (167, _, [], (SHq n 20 [none, some 116, some 117, some 118, some 119, some 120, some 121, some 122, some 123, none, some 124, some 125, none, some 126, none, none, some 127, some 128, none, some 129, some 130, some 131, some 132, none, some 133, some 134, some 135, none, none, none, none, none, none], zrs h 20), (20, 12296))
  iterate 2 (refine hX _ ?_; conv => whnf)
  refine hX _ ?_; conv => whnf
  refine ⟨by first | rfl | decide, ?_⟩
  refine hX _ ?_; conv => whnf
  change X (175, _, [], (SHq n 21 [none, some 116, some 117, some 118, some 119, some 120, some 121, some 122, some 123, none, some 124, some 125, none, some 126, none, none, some 127, some 128, none, some 129, some 130, some 131, some 132, none, some 133, some 134, some 135, some 136, none, none, none, none, none], zrs h 21), (21, 12304))
  iterate 2 (refine hX _ ?_; conv => whnf)
  refine hX _ ?_; conv => whnf
  refine ⟨by first | rfl | decide, ?_⟩
  refine hX _ ?_; conv => whnf
  change X (183, _, [], (SHq n 22 [none, some 116, some 117, some 118, some 119, some 120, some 121, some 122, some 123, none, some 124, some 125, none, some 126, none, none, some 127, some 128, none, some 129, some 130, some 131, some 132, none, some 133, some 134, some 135, some 136, none, none, some 137, none, none], zrs h 22), (22, 12312))
  iterate 2 (refine hX _ ?_; conv => whnf)
  refine hX _ ?_; conv => whnf
  refine ⟨by first | rfl | decide, ?_⟩
  refine hX _ ?_; conv => whnf
  change X (190, _, [], (SHq n 23 [none, some 116, some 117, some 118, some 119, some 120, some 121, some 122, some 123, none, some 124, some 125, none, some 126, none, none, some 127, some 128, none, some 129, some 130, some 131, some 132, none, some 133, some 134, some 135, some 136, none, none, some 137, some 138, none], zrs h 23), (23, 12316))
  iterate 2 (refine hX _ ?_; conv => whnf)
  refine hX _ ?_; conv => whnf
  refine ⟨by first | rfl | decide, ?_⟩
  refine hX _ ?_; conv => whnf
  change X (197, _, [], (SHq n 24 [none, some 116, some 117, some 118, some 119, some 120, some 121, some 122, some 123, none, some 124, some 125, none, some 126, none, none, some 127, some 128, none, some 129, some 130, some 131, some 132, none, some 133, some 134, some 135, some 136, none, none, some 137, some 138, some 139], zrs h 24), (24, 12320))
  change X (197, _, [], (bg_SH n, zrs h 24), _)
  iterate 2 (refine hX _ ?_; conv => whnf)
  refine hX _ ?_; conv => whnf
  refine s_mnoLand d n 0 (by omega) (zrs h 24) _ (fun h1 a1 a2 a3 a4 => ?_)
  conv => whnf
  refine hX _ ?_; conv => whnf
  refine hX _ ?_; conv => whnf
  refine s_mnoPlayers d n h1 _ (fun h2 b1 b2 b3 b4 b5 => ?_)
  conv => whnf
  refine hX _ ?_; conv => whnf
  refine hR h2 (fun k hk => ?_) (fun k k1 k2 k3 k4 k5 j => ?_) ⟨?_, ?_, ?_⟩ (fun k hk => ⟨?_, ?_⟩)
  · rw [b1 k (by omega) (by omega) (by omega) (by omega), a1 k (by omega) (by omega) (by omega), zrs_ne (by omega)]
  · have z : ∀ k, 116 ≤ k → k < 140 → ∀ j, zrs h 24 k j = 0 := fun k k1 k2 j => zrs_in k1 j 24 (by omega)
    have w : ∀ k, 116 ≤ k → k < 140 → k ≠ 121 → ∀ j, h1 k j = 0 := fun k k1 k2 k3 j => by
      by_cases c6 : k = 117
      · subst c6
        rw [a2]
        show (if j = ((0 : Nat) : Int) then 0 else zrs h 24 117 j) = 0
        rw [z 117 (by omega) (by omega)]
        exact ite_self _
      · by_cases c8 : k = 119
        · subst c8
          rw [a3]
          show (if j = ((0 : Nat) : Int) then 0 else zrs h 24 119 j) = 0
          rw [z 119 (by omega) (by omega)]
          exact ite_self _
        · rw [a1 k c6 c8 k3]
          exact z k k1 k2 j
    by_cases c3 : k = 124
    · subst c3
      rw [b4]
      show (if 0 ≤ j ∧ j < 12 then 0 else h1 124 j) = 0
      rw [w 124 (by omega) (by omega) (by omega)]
      exact ite_self _
    · by_cases c4 : k = 125
      · subst c4
        rw [b5]
        show (if 0 ≤ j ∧ j < 4 then 0 else h1 125 j) = 0
        rw [w 125 (by omega) (by omega) (by omega)]
        exact ite_self _
      · rw [b1 k k4 k5 c3 c4]
        exact w k k1 k2 k3 j
  · rw [b1 121 (by omega) (by omega) (by omega) (by omega), a4]
    rfl
  · rw [b1 121 (by omega) (by omega) (by omega) (by omega), a4]
    rfl
  · rw [b1 121 (by omega) (by omega) (by omega) (by omega), a4]
    rfl
  · rw [b2]
    exact if_pos ⟨by omega, by omega⟩
  · rw [b3]
    exact if_pos ⟨by omega, by omega⟩
theorem wsC_0 {h : bg_G} (h0 : h 22 3 = 0) : wsC h = [] := by
  unfold wsC wsG
  rw [h0]
  simp [wf]
/-- what is new holds -/
theorem inv_new {h : bg_G} (hl : limC h) (e13 : h 2 13 = 0) (e33 : h 3 3 = 0) (hc : holdC h 22 D0) (hL : ∀ k : Nat, k < 4 → h 54 k = -1 ∧ h 55 k = -1) (hr : ∀ j, h 73 j = 0 ∧ h 74 j = 0) (h39 : ∀ c : Nat, c < 64 → h 39 c = 0) (h41 : h 41 5 = 0) (h414 : h 41 4 = 0) (e7 : h 46 7 = 0) (e9 : h 46 9 = 0) (h114 : ∀ j, h 115 j = 0) (hz : ∀ k, 116 ≤ k → k < 140 → k ≠ 121 → k ≠ 122 → k ≠ 123 → ∀ j, h k j = 0) (h120 : h 121 0 = 0 ∧ h 121 1 = 100 ∧ h 121 2 = 0) (h12 : ∀ k : Nat, k < 4 → h 122 k = -1 ∧ h 123 k = -1) : INV h := by
  have z117 := hz 118 (by omega) (by omega) (by omega) (by omega) (by omega)
  have z119 := hz 120 (by omega) (by omega) (by omega) (by omega) (by omega)
  have hm : holdM h 0 D0 := ⟨⟨hz 117 (by omega) (by omega) (by omega) (by omega) (by omega) _, hz 119 (by omega) (by omega) (by omega) (by omega) (by omega) _, h120.1, h120.2.1, h120.2.2⟩, fun p hp => absurd hp (by simp [D0]), fun t ht => absurd ht (by simp [D0])⟩
  have rg : ∀ B, rgB h B := fun B => ⟨fun p _ i hi => by rw [z117]; exact ⟨by omega, (lim_rg i hi).1⟩, fun t _ => by rw [z119, z119, z119]; exact ⟨by omega, by omega, by omega⟩⟩
  have h0 : h 22 3 = 0 := hc.1.1
  refine ⟨⟨D0, okD_0, hc, hm, fun k hk => ?_⟩, ⟨0, by omega, e13, h114 9, fun c => absurd c (by omega), fun c => absurd c (by omega)⟩, ⟨rg 0, rg 1, rg 2, rg 3⟩, ⟨0, e33, h114 0, by omega, fun i hi => absurd hi (by omega)⟩, ⟨fun p _ => ?_, fun g _ => ?_⟩, ?_, hl⟩
  · have a := hL k hk
    have b := h12 k hk
    have e1 : h 122 (4 * ((0 : Nat) : Int) + k) = -1 := by
      have : 4 * ((0 : Nat) : Int) + (k : Int) = k := by omega
      rw [this]
      exact b.1
    have e2 : h 123 (4 * ((0 : Nat) : Int) + k) = -1 := by
      have : 4 * ((0 : Nat) : Int) + (k : Int) = k := by omega
      rw [this]
      exact b.2
    exact ⟨⟨by rw [a.1, e1], by rw [a.2, e2]⟩, Or.inl a.1, by rw [a.2]; omega⟩
  · rw [(hr p).1, hz 124 (by omega) (by omega) (by omega) (by omega) (by omega)]
    omega
  · rw [(hr g).2, hz 125 (by omega) (by omega) (by omega) (by omega) (by omega)]
    omega
  · refine CSH_new okD_0 hc hm (fun c hc' => ?_) ?_ e7 e9 (h114 12) (h114 14)
    · rw [h39 c hc']
      unfold outC
      rw [h0]
      rfl
    · rw [wsC_0 h0]
      exact ⟨⟨h41, by simp, fun w l hl => absurd hl (by simp)⟩, by rw [h414]; exact ⟨by omega, Or.inl rfl⟩, fun w l hl => absurd hl (by simp)⟩
