/-! the constructors of the class -/
/-- the shapes while they are made: the first m, with x's references so far -/
def SHm (n m : Nat) (rs a b : List (Option Nat)) : List bg_C := ((((bg_SH n).take m).set 2 (8, 14, rs)).set 75 (12, 2, a)).set 76 (13, 2, b)
theorem zr_ne {h : bg_G} {a m k : Nat} {j : Int} (hk : k < a) : bg_zero h a m k j = h k j := by
  unfold bg_zero
  rw [if_neg (by omega)]
theorem zr_in {h : bg_G} {a m k : Nat} {j : Int} (h1 : a ≤ k) (h2 : k < a + m) : bg_zero h a m k j = 0 := by
  unfold bg_zero
  rw [if_pos ⟨h1, h2⟩]
theorem c_3 (d n : Nat) (h : bg_G) (Rt : bg_R) (hR : ∀ h' : bg_G, (∀ k, k ≤ 3 → h' k = h k) → Rt none (SHm n 6 [none, none, none, none, none, none, none, none, none, none, none, none, none, none] [none, none] [none, none], h')) : bg_Ca bg_MS (d + 1) 6 [vR 3] (SHm n 3 [none, none, none, none, none, none, none, none, none, none, none, none, none, none] [none, none] [none, none] ++ [(6, 4, List.replicate 4 none)], h) Rt := by
  refine bg_ca (cd := cd_X6_init) rfl rfl ?_
  intro X hX
  iterate 4 (refine hX _ ?_; conv => whnf)
  refine hX _ ?_; conv => whnf
  refine ⟨by first | rfl | decide, ?_⟩
  iterate 3 (refine hX _ ?_; conv => whnf)
  refine hX _ ?_; conv => whnf
  refine ⟨by first | rfl | decide, ?_⟩
  refine hX _ ?_; conv => whnf
  refine hX _ ?_; conv => whnf
  refine hR (bg_zero (bg_zero h 4 1) 5 1) (fun k hk => ?_)
  funext j
  simp (disch := omega) only [zr_ne]
theorem l_6 (n : Nat) : lndS (SHm n 22 [some 3, none, none, none, none, none, none, none, none, none, none, none, none, none] [none, none] [none, none]) 6 := by
  refine ⟨rfl, rfl, fun p hp => ?_, rfl, rfl⟩
  match p, hp with
  | 0, _ => rfl
  | 1, _ => rfl
  | 2, _ => rfl
  | 3, _ => rfl
  | 4, _ => rfl
  | 5, _ => rfl
  | 6, _ => rfl
  | 7, _ => rfl
  | 8, _ => rfl
  | 9, _ => rfl
  | 10, _ => rfl
  | 11, _ => rfl
  | p + 12, h => exact absurd h (by omega)
theorem c_6 (d n : Nat) (h : bg_G) (Rt : bg_R) (hR : ∀ h' : bg_G, (∀ k, k < 6 → h' k = h k) → holdC h' 6 D0 → Rt none (SHm n 22 [some 3, none, none, none, none, none, none, none, none, none, none, none, none, none] [none, none] [none, none], h')) : bg_Ca bg_MS (d + 3) 2 [vR 6] (SHm n 6 [some 3, none, none, none, none, none, none, none, none, none, none, none, none, none] [none, none] [none, none] ++ [(2, 8, List.replicate 8 none)], h) Rt := by
  refine bg_ca (cd := cd_X2_init) rfl rfl ?_
  intro X hX
  iterate 5 (refine hX _ ?_; conv => whnf)
  refine hX _ ?_; conv => whnf
  refine ⟨⟨by first | rfl | decide, by first | rfl | decide⟩, ?_⟩
  iterate 3 (refine hX _ ?_; conv => whnf)
  refine hX _ ?_; conv => whnf
  refine ⟨by first | rfl | decide, ?_⟩
  iterate 3 (refine hX _ ?_; conv => whnf)
  refine hX _ ?_; conv => whnf
  refine ⟨by first | rfl | decide, ?_⟩
  iterate 2 (refine hX _ ?_; conv => whnf)
  refine hX _ ?_; conv => whnf
  refine s_clear d 6 (SHm n 22 [some 3, none, none, none, none, none, none, none, none, none, none, none, none, none] [none, none] [none, none]) (l_6 n) (bg_zero (bg_zero (bg_zero h 7 13) 20 1) 21 1) _ (fun h1 f1 f2 => ?_)
  conv => whnf
  refine hX _ ?_; conv => whnf
  refine hR h1 (fun k hk => ?_) f2
  rw [f1 k (Or.inl hk)]
  funext j
  simp (disch := omega) only [zr_ne]
theorem l_22 (n : Nat) : lndS (SHm n 38 [some 3, some 6, none, none, none, none, none, none, none, none, none, none, none, none] [none, none] [none, none]) 22 := by
  refine ⟨rfl, rfl, fun p hp => ?_, rfl, rfl⟩
  match p, hp with
  | 0, _ => rfl
  | 1, _ => rfl
  | 2, _ => rfl
  | 3, _ => rfl
  | 4, _ => rfl
  | 5, _ => rfl
  | 6, _ => rfl
  | 7, _ => rfl
  | 8, _ => rfl
  | 9, _ => rfl
  | 10, _ => rfl
  | 11, _ => rfl
  | p + 12, h => exact absurd h (by omega)
theorem c_22 (d n : Nat) (h : bg_G) (Rt : bg_R) (hR : ∀ h' : bg_G, (∀ k, k < 22 → h' k = h k) → holdC h' 22 D0 → Rt none (SHm n 38 [some 3, some 6, none, none, none, none, none, none, none, none, none, none, none, none] [none, none] [none, none], h')) : bg_Ca bg_MS (d + 3) 2 [vR 22] (SHm n 22 [some 3, some 6, none, none, none, none, none, none, none, none, none, none, none, none] [none, none] [none, none] ++ [(2, 8, List.replicate 8 none)], h) Rt := by
  refine bg_ca (cd := cd_X2_init) rfl rfl ?_
  intro X hX
  iterate 5 (refine hX _ ?_; conv => whnf)
  refine hX _ ?_; conv => whnf
  refine ⟨⟨by first | rfl | decide, by first | rfl | decide⟩, ?_⟩
  iterate 3 (refine hX _ ?_; conv => whnf)
  refine hX _ ?_; conv => whnf
  refine ⟨by first | rfl | decide, ?_⟩
  iterate 3 (refine hX _ ?_; conv => whnf)
  refine hX _ ?_; conv => whnf
  refine ⟨by first | rfl | decide, ?_⟩
  iterate 2 (refine hX _ ?_; conv => whnf)
  refine hX _ ?_; conv => whnf
  refine s_clear d 22 (SHm n 38 [some 3, some 6, none, none, none, none, none, none, none, none, none, none, none, none] [none, none] [none, none]) (l_22 n) (bg_zero (bg_zero (bg_zero h 23 13) 36 1) 37 1) _ (fun h1 f1 f2 => ?_)
  conv => whnf
  refine hX _ ?_; conv => whnf
  refine hR h1 (fun k hk => ?_) f2
  rw [f1 k (Or.inl hk)]
  funext j
  simp (disch := omega) only [zr_ne]
theorem c_38 (d n : Nat) (h : bg_G) (Rt : bg_R) (hR : ∀ h' : bg_G, (∀ k, k ≤ 38 → h' k = h k) → (∀ j, h' 39 j = 0) → Rt none (SHm n 41 [some 3, some 6, some 22, none, none, none, none, none, none, none, none, none, none, none] [none, none] [none, none], h')) : bg_Ca bg_MS (d + 1) 0 [vR 38] (SHm n 38 [some 3, some 6, some 22, none, none, none, none, none, none, none, none, none, none, none] [none, none] [none, none] ++ [(0, 4, List.replicate 4 none)], h) Rt := by
  refine bg_ca (cd := cd_X0_init) rfl rfl ?_
  intro X hX
  iterate 4 (refine hX _ ?_; conv => whnf)
  refine hX _ ?_; conv => whnf
  refine ⟨by first | rfl | decide, ?_⟩
  iterate 3 (refine hX _ ?_; conv => whnf)
  refine hX _ ?_; conv => whnf
  refine ⟨by first | rfl | decide, ?_⟩
  refine hX _ ?_; conv => whnf
  refine hX _ ?_; conv => whnf
  refine hR (bg_zero (bg_zero h 39 1) 40 1) (fun k hk => ?_) (fun j => ?_)
  · funext j
    simp (disch := omega) only [zr_ne]
  · rw [zr_ne (by omega), zr_in (by omega) (by omega)]
theorem c_41 (d n : Nat) (h : bg_G) (Rt : bg_R) (hR : ∀ h' : bg_G, (∀ k, k ≤ 41 → h' k = h k) → Rt none (SHm n 46 [some 3, some 6, some 22, some 38, none, none, none, none, none, none, none, none, none, none] [none, none] [none, none], h')) : bg_Ca bg_MS (d + 1) 7 [vR 41] (SHm n 41 [some 3, some 6, some 22, some 38, none, none, none, none, none, none, none, none, none, none] [none, none] [none, none] ++ [(7, 6, List.replicate 6 none)], h) Rt := by
  refine bg_ca (cd := cd_X7_init) rfl rfl ?_
  intro X hX
  iterate 4 (refine hX _ ?_; conv => whnf)
  refine hX _ ?_; conv => whnf
  refine ⟨by first | rfl | decide, ?_⟩
  iterate 3 (refine hX _ ?_; conv => whnf)
  refine hX _ ?_; conv => whnf
  refine ⟨by first | rfl | decide, ?_⟩
  iterate 3 (refine hX _ ?_; conv => whnf)
  refine hX _ ?_; conv => whnf
  refine ⟨by first | rfl | decide, ?_⟩
  iterate 3 (refine hX _ ?_; conv => whnf)
  refine hX _ ?_; conv => whnf
  refine ⟨by first | rfl | decide, ?_⟩
  refine hX _ ?_; conv => whnf
  refine hX _ ?_; conv => whnf
  refine hR (bg_zero (bg_zero (bg_zero (bg_zero h 42 1) 43 1) 44 1) 45 1) (fun k hk => ?_)
  funext j
  simp (disch := omega) only [zr_ne]
set_option maxRecDepth 100000 in
theorem c_46 (d n : Nat) (h : bg_G) (Rt : bg_R) (hR : ∀ h' : bg_G, (∀ k, k ≤ 46 → h' k = h k) → Rt none (SHm n 53 [some 3, some 6, some 22, some 38, some 41, none, none, none, none, none, none, none, none, none] [none, none] [none, none], h')) : bg_Ca bg_MS (d + 1) 4 [vR 46] (SHm n 46 [some 3, some 6, some 22, some 38, some 41, none, none, none, none, none, none, none, none, none] [none, none] [none, none] ++ [(4, 12, List.replicate 12 none)], h) Rt := by
  refine bg_ca (cd := cd_X4_init) rfl rfl ?_
  intro X hX
  iterate 4 (refine hX _ ?_; conv => whnf)
  refine hX _ ?_; conv => whnf
  refine ⟨by first | rfl | decide, ?_⟩
  refine hX _ ?_; conv => whnf
  change X (13, [oR 46], [], (SHm n 46 [some 3, some 6, some 22, some 38, some 41, none, none, none, none, none, none, none, none, none] [none, none] [none, none] ++ [(4, 12, [some 47, none, none, none, none, none, none, none, none, none, none, none]), (10, 4096, [])], (bg_zero h 47 1)), (1, 4096))
  iterate 2 (refine hX _ ?_; conv => whnf)
  refine hX _ ?_; conv => whnf
  refine ⟨by first | rfl | decide, ?_⟩
  refine hX _ ?_; conv => whnf
  change X (22, [oR 46], [], (SHm n 46 [some 3, some 6, some 22, some 38, some 41, none, none, none, none, none, none, none, none, none] [none, none] [none, none] ++ [(4, 12, [some 47, some 48, none, none, none, none, none, none, none, none, none, none]), (10, 4096, []), (10, 4096, [])], (bg_zero (bg_zero h 47 1) 48 1)), (2, 8192))
  iterate 2 (refine hX _ ?_; conv => whnf)
  refine hX _ ?_; conv => whnf
  refine ⟨by first | rfl | decide, ?_⟩
  refine hX _ ?_; conv => whnf
  change X (31, [oR 46], [], (SHm n 46 [some 3, some 6, some 22, some 38, some 41, none, none, none, none, none, none, none, none, none] [none, none] [none, none] ++ [(4, 12, [some 47, some 48, some 49, none, none, none, none, none, none, none, none, none]), (10, 4096, []), (10, 4096, []), (10, 4096, [])], (bg_zero (bg_zero (bg_zero h 47 1) 48 1) 49 1)), (3, 12288))
  iterate 2 (refine hX _ ?_; conv => whnf)
  refine hX _ ?_; conv => whnf
  refine ⟨by first | rfl | decide, ?_⟩
  refine hX _ ?_; conv => whnf
  change X (39, [oR 46], [], (SHm n 46 [some 3, some 6, some 22, some 38, some 41, none, none, none, none, none, none, none, none, none] [none, none] [none, none] ++ [(4, 12, [some 47, some 48, some 49, some 50, none, none, none, none, none, none, none, none]), (10, 4096, []), (10, 4096, []), (10, 4096, []), (10, 12, [])], (bg_zero (bg_zero (bg_zero (bg_zero h 47 1) 48 1) 49 1) 50 1)), (4, 12300))
  iterate 2 (refine hX _ ?_; conv => whnf)
  refine hX _ ?_; conv => whnf
  refine ⟨by first | rfl | decide, ?_⟩
  refine hX _ ?_; conv => whnf
  change X (48, [oR 46], [], (SHm n 46 [some 3, some 6, some 22, some 38, some 41, none, none, none, none, none, none, none, none, none] [none, none] [none, none] ++ [(4, 12, [some 47, some 48, some 49, some 50, some 51, none, none, none, none, none, none, none]), (10, 4096, []), (10, 4096, []), (10, 4096, []), (10, 12, []), (10, 301, [])], (bg_zero (bg_zero (bg_zero (bg_zero (bg_zero h 47 1) 48 1) 49 1) 50 1) 51 1)), (5, 12601))
  iterate 2 (refine hX _ ?_; conv => whnf)
  refine hX _ ?_; conv => whnf
  refine ⟨by first | rfl | decide, ?_⟩
  refine hX _ ?_; conv => whnf
  change X (57, [oR 46], [], (SHm n 46 [some 3, some 6, some 22, some 38, some 41, none, none, none, none, none, none, none, none, none] [none, none] [none, none] ++ [(4, 12, [some 47, some 48, some 49, some 50, some 51, some 52, none, none, none, none, none, none]), (10, 4096, []), (10, 4096, []), (10, 4096, []), (10, 12, []), (10, 301, []), (10, 301, [])], (bg_zero (bg_zero (bg_zero (bg_zero (bg_zero (bg_zero h 47 1) 48 1) 49 1) 50 1) 51 1) 52 1)), (6, 12902))
  refine hX _ ?_; conv => whnf
  refine hR (bg_zero (bg_zero (bg_zero (bg_zero (bg_zero (bg_zero h 47 1) 48 1) 49 1) 50 1) 51 1) 52 1) (fun k hk => ?_)
  funext j
  simp (disch := omega) only [zr_ne]
set_option maxRecDepth 100000 in
theorem c_53 (d n : Nat) (h : bg_G) (Rt : bg_R) (hR : ∀ h' : bg_G, (∀ k, k ≤ 53 → h' k = h k) → (∀ k : Nat, k < 4 → h' 54 k = -1 ∧ h' 55 k = -1) → Rt none (SHm n 56 [some 3, some 6, some 22, some 38, some 41, some 46, none, none, none, none, none, none, none, none] [none, none] [none, none], h')) : bg_Ca bg_MS (d + 3) 3 [vR 53] (SHm n 53 [some 3, some 6, some 22, some 38, some 41, some 46, none, none, none, none, none, none, none, none] [none, none] [none, none] ++ [(3, 2, List.replicate 2 none)], h) Rt := by
  refine bg_ca (cd := cd_X3_init) rfl rfl ?_
  intro X hX
  iterate 4 (refine hX _ ?_; conv => whnf)
  refine hX _ ?_; conv => whnf
  refine ⟨by first | rfl | decide, ?_⟩
  iterate 3 (refine hX _ ?_; conv => whnf)
  refine hX _ ?_; conv => whnf
  refine ⟨by first | rfl | decide, ?_⟩
  iterate 2 (refine hX _ ?_; conv => whnf)
  refine hX _ ?_; conv => whnf
  refine s_tclear d 53 (SHm n 56 [some 3, some 6, some 22, some 38, some 41, some 46, none, none, none, none, none, none, none, none] [none, none] [none, none]) ⟨rfl, rfl, rfl⟩ (bg_zero (bg_zero h 54 1) 55 1) _ (fun h1 f1 f2 => ?_)
  conv => whnf
  refine hX _ ?_; conv => whnf
  refine hR h1 (fun k hk => ?_) f2
  rw [f1 k (by omega) (by omega)]
  funext j
  simp (disch := omega) only [zr_ne]
theorem c_56 (d n : Nat) (h : bg_G) (Rt : bg_R) (hR : ∀ h' : bg_G, (∀ k, k ≤ 56 → h' k = h k) → Rt none (SHm n 68 [some 3, some 6, some 22, some 38, some 41, some 46, some 53, none, none, none, none, none, none, none] [none, none] [none, none], h')) : bg_Ca bg_MS (d + 1) 1 [vR 56] (SHm n 56 [some 3, some 6, some 22, some 38, some 41, some 46, some 53, none, none, none, none, none, none, none] [none, none] [none, none] ++ [(1, 6, List.replicate 6 none)], h) Rt := by
  refine bg_ca (cd := cd_X1_init) rfl rfl ?_
  intro X hX
  iterate 5 (refine hX _ ?_; conv => whnf)
  refine hX _ ?_; conv => whnf
  refine ⟨⟨by first | rfl | decide, by first | rfl | decide⟩, ?_⟩
  iterate 3 (refine hX _ ?_; conv => whnf)
  refine hX _ ?_; conv => whnf
  refine ⟨by first | rfl | decide, ?_⟩
  iterate 3 (refine hX _ ?_; conv => whnf)
  refine hX _ ?_; conv => whnf
  refine ⟨by first | rfl | decide, ?_⟩
  iterate 4 (refine hX _ ?_; conv => whnf)
  refine hX _ ?_; conv => whnf
  refine ⟨⟨by first | rfl | decide, by first | rfl | decide⟩, ?_⟩
  refine hX _ ?_; conv => whnf
  refine hX _ ?_; conv => whnf
  refine hR (bg_zero (bg_zero (bg_zero (bg_zero h 57 5) 62 1) 63 1) 64 4) (fun k hk => ?_)
  funext j
  simp (disch := omega) only [zr_ne]
theorem c_68 (d n : Nat) (h : bg_G) (Rt : bg_R) (hR : ∀ h' : bg_G, (∀ k, k ≤ 68 → h' k = h k) → Rt none (SHm n 73 [some 3, some 6, some 22, some 38, some 41, some 46, some 53, some 56, none, none, none, none, none, none] [none, none] [none, none], h')) : bg_Ca bg_MS (d + 1) 5 [vR 68] (SHm n 68 [some 3, some 6, some 22, some 38, some 41, some 46, some 53, some 56, none, none, none, none, none, none] [none, none] [none, none] ++ [(5, 4, List.replicate 4 none)], h) Rt := by
  refine bg_ca (cd := cd_X5_init) rfl rfl ?_
  intro X hX
  iterate 4 (refine hX _ ?_; conv => whnf)
  refine hX _ ?_; conv => whnf
  refine ⟨by first | rfl | decide, ?_⟩
  iterate 3 (refine hX _ ?_; conv => whnf)
  refine hX _ ?_; conv => whnf
  refine ⟨by first | rfl | decide, ?_⟩
  iterate 3 (refine hX _ ?_; conv => whnf)
  refine hX _ ?_; conv => whnf
  refine ⟨by first | rfl | decide, ?_⟩
  iterate 3 (refine hX _ ?_; conv => whnf)
  refine hX _ ?_; conv => whnf
  refine ⟨by first | rfl | decide, ?_⟩
  refine hX _ ?_; conv => whnf
  refine hX _ ?_; conv => whnf
  refine hR (bg_zero (bg_zero (bg_zero (bg_zero h 69 1) 70 1) 71 1) 72 1) (fun k hk => ?_)
  funext j
  simp (disch := omega) only [zr_ne]
theorem l_77 (n : Nat) : lndS (SHm n 93 [some 3, some 6, some 22, some 38, some 41, some 46, some 53, some 56, some 68, some 73, some 74, some 75, some 76, none] [none, none] [none, none]) 77 := by
  refine ⟨rfl, rfl, fun p hp => ?_, rfl, rfl⟩
  match p, hp with
  | 0, _ => rfl
  | 1, _ => rfl
  | 2, _ => rfl
  | 3, _ => rfl
  | 4, _ => rfl
  | 5, _ => rfl
  | 6, _ => rfl
  | 7, _ => rfl
  | 8, _ => rfl
  | 9, _ => rfl
  | 10, _ => rfl
  | 11, _ => rfl
  | p + 12, h => exact absurd h (by omega)
theorem c_77 (d n : Nat) (h : bg_G) (Rt : bg_R) (hR : ∀ h' : bg_G, (∀ k, k < 77 → h' k = h k) → holdC h' 77 D0 → Rt none (SHm n 93 [some 3, some 6, some 22, some 38, some 41, some 46, some 53, some 56, some 68, some 73, some 74, some 75, some 76, none] [none, none] [none, none], h')) : bg_Ca bg_MS (d + 3) 2 [vR 77] (SHm n 77 [some 3, some 6, some 22, some 38, some 41, some 46, some 53, some 56, some 68, some 73, some 74, some 75, some 76, none] [none, none] [none, none] ++ [(2, 8, List.replicate 8 none)], h) Rt := by
  refine bg_ca (cd := cd_X2_init) rfl rfl ?_
  intro X hX
  iterate 5 (refine hX _ ?_; conv => whnf)
  refine hX _ ?_; conv => whnf
  refine ⟨⟨by first | rfl | decide, by first | rfl | decide⟩, ?_⟩
  iterate 3 (refine hX _ ?_; conv => whnf)
  refine hX _ ?_; conv => whnf
  refine ⟨by first | rfl | decide, ?_⟩
  iterate 3 (refine hX _ ?_; conv => whnf)
  refine hX _ ?_; conv => whnf
  refine ⟨by first | rfl | decide, ?_⟩
  iterate 2 (refine hX _ ?_; conv => whnf)
  refine hX _ ?_; conv => whnf
  refine s_clear d 77 (SHm n 93 [some 3, some 6, some 22, some 38, some 41, some 46, some 53, some 56, some 68, some 73, some 74, some 75, some 76, none] [none, none] [none, none]) (l_77 n) (bg_zero (bg_zero (bg_zero h 78 13) 91 1) 92 1) _ (fun h1 f1 f2 => ?_)
  conv => whnf
  refine hX _ ?_; conv => whnf
  refine hR h1 (fun k hk => ?_) f2
  rw [f1 k (Or.inl hk)]
  funext j
  simp (disch := omega) only [zr_ne]
set_option maxRecDepth 100000 in
theorem c_93 (d n : Nat) (h : bg_G) (Rt : bg_R) (hR : ∀ h' : bg_G, (∀ k, k ≤ 93 → h' k = h k) → (∀ k : Nat, k < 4 → h' 94 k = -1 ∧ h' 95 k = -1) → Rt none (SHm n 96 [some 3, some 6, some 22, some 38, some 41, some 46, some 53, some 56, some 68, some 73, some 74, some 75, some 76, none] [some 77, none] [none, none], h')) : bg_Ca bg_MS (d + 3) 3 [vR 93] (SHm n 93 [some 3, some 6, some 22, some 38, some 41, some 46, some 53, some 56, some 68, some 73, some 74, some 75, some 76, none] [some 77, none] [none, none] ++ [(3, 2, List.replicate 2 none)], h) Rt := by
  refine bg_ca (cd := cd_X3_init) rfl rfl ?_
  intro X hX
  iterate 4 (refine hX _ ?_; conv => whnf)
  refine hX _ ?_; conv => whnf
  refine ⟨by first | rfl | decide, ?_⟩
  iterate 3 (refine hX _ ?_; conv => whnf)
  refine hX _ ?_; conv => whnf
  refine ⟨by first | rfl | decide, ?_⟩
  iterate 2 (refine hX _ ?_; conv => whnf)
  refine hX _ ?_; conv => whnf
  refine s_tclear d 93 (SHm n 96 [some 3, some 6, some 22, some 38, some 41, some 46, some 53, some 56, some 68, some 73, some 74, some 75, some 76, none] [some 77, none] [none, none]) ⟨rfl, rfl, rfl⟩ (bg_zero (bg_zero h 94 1) 95 1) _ (fun h1 f1 f2 => ?_)
  conv => whnf
  refine hX _ ?_; conv => whnf
  refine hR h1 (fun k hk => ?_) f2
  rw [f1 k (by omega) (by omega)]
  funext j
  simp (disch := omega) only [zr_ne]
theorem l_96 (n : Nat) : lndS (SHm n 112 [some 3, some 6, some 22, some 38, some 41, some 46, some 53, some 56, some 68, some 73, some 74, some 75, some 76, none] [some 77, none] [some 93, none]) 96 := by
  refine ⟨rfl, rfl, fun p hp => ?_, rfl, rfl⟩
  match p, hp with
  | 0, _ => rfl
  | 1, _ => rfl
  | 2, _ => rfl
  | 3, _ => rfl
  | 4, _ => rfl
  | 5, _ => rfl
  | 6, _ => rfl
  | 7, _ => rfl
  | 8, _ => rfl
  | 9, _ => rfl
  | 10, _ => rfl
  | 11, _ => rfl
  | p + 12, h => exact absurd h (by omega)
theorem c_96 (d n : Nat) (h : bg_G) (Rt : bg_R) (hR : ∀ h' : bg_G, (∀ k, k < 96 → h' k = h k) → holdC h' 96 D0 → Rt none (SHm n 112 [some 3, some 6, some 22, some 38, some 41, some 46, some 53, some 56, some 68, some 73, some 74, some 75, some 76, none] [some 77, none] [some 93, none], h')) : bg_Ca bg_MS (d + 3) 2 [vR 96] (SHm n 96 [some 3, some 6, some 22, some 38, some 41, some 46, some 53, some 56, some 68, some 73, some 74, some 75, some 76, none] [some 77, none] [some 93, none] ++ [(2, 8, List.replicate 8 none)], h) Rt := by
  refine bg_ca (cd := cd_X2_init) rfl rfl ?_
  intro X hX
  iterate 5 (refine hX _ ?_; conv => whnf)
  refine hX _ ?_; conv => whnf
  refine ⟨⟨by first | rfl | decide, by first | rfl | decide⟩, ?_⟩
  iterate 3 (refine hX _ ?_; conv => whnf)
  refine hX _ ?_; conv => whnf
  refine ⟨by first | rfl | decide, ?_⟩
  iterate 3 (refine hX _ ?_; conv => whnf)
  refine hX _ ?_; conv => whnf
  refine ⟨by first | rfl | decide, ?_⟩
  iterate 2 (refine hX _ ?_; conv => whnf)
  refine hX _ ?_; conv => whnf
  refine s_clear d 96 (SHm n 112 [some 3, some 6, some 22, some 38, some 41, some 46, some 53, some 56, some 68, some 73, some 74, some 75, some 76, none] [some 77, none] [some 93, none]) (l_96 n) (bg_zero (bg_zero (bg_zero h 97 13) 110 1) 111 1) _ (fun h1 f1 f2 => ?_)
  conv => whnf
  refine hX _ ?_; conv => whnf
  refine hR h1 (fun k hk => ?_) f2
  rw [f1 k (Or.inl hk)]
  funext j
  simp (disch := omega) only [zr_ne]
set_option maxRecDepth 100000 in
theorem c_112 (d n : Nat) (h : bg_G) (Rt : bg_R) (hR : ∀ h' : bg_G, (∀ k, k ≤ 112 → h' k = h k) → (∀ k : Nat, k < 4 → h' 113 k = -1 ∧ h' 114 k = -1) → Rt none (SHm n 115 [some 3, some 6, some 22, some 38, some 41, some 46, some 53, some 56, some 68, some 73, some 74, some 75, some 76, none] [some 77, some 96] [some 93, none], h')) : bg_Ca bg_MS (d + 3) 3 [vR 112] (SHm n 112 [some 3, some 6, some 22, some 38, some 41, some 46, some 53, some 56, some 68, some 73, some 74, some 75, some 76, none] [some 77, some 96] [some 93, none] ++ [(3, 2, List.replicate 2 none)], h) Rt := by
  refine bg_ca (cd := cd_X3_init) rfl rfl ?_
  intro X hX
  iterate 4 (refine hX _ ?_; conv => whnf)
  refine hX _ ?_; conv => whnf
  refine ⟨by first | rfl | decide, ?_⟩
  iterate 3 (refine hX _ ?_; conv => whnf)
  refine hX _ ?_; conv => whnf
  refine ⟨by first | rfl | decide, ?_⟩
  iterate 2 (refine hX _ ?_; conv => whnf)
  refine hX _ ?_; conv => whnf
  refine s_tclear d 112 (SHm n 115 [some 3, some 6, some 22, some 38, some 41, some 46, some 53, some 56, some 68, some 73, some 74, some 75, some 76, none] [some 77, some 96] [some 93, none]) ⟨rfl, rfl, rfl⟩ (bg_zero (bg_zero h 113 1) 114 1) _ (fun h1 f1 f2 => ?_)
  conv => whnf
  refine hX _ ?_; conv => whnf
  refine hR h1 (fun k hk => ?_) f2
  rw [f1 k (by omega) (by omega)]
  funext j
  simp (disch := omega) only [zr_ne]
