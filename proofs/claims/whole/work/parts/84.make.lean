/-! the class is made -/
def S4 (n : Nat) : List bg_C := SHm n 115 [some 3, some 6, some 22, some 38, some 41, some 46, some 53, some 56, some 68, some 73, some 74, some 75, some 76, none] [some 77, some 96] [some 93, some 112]
set_option maxHeartbeats 10000000 in
set_option maxRecDepth 100000 in
theorem x8_init (d n : Nat) (h : bg_G) (Rt : bg_R) (hR : ∀ h' : bg_G, h' 0 = h 0 → h' 1 = h 1 → h' 2 13 = 0 → h' 3 3 = 0 → holdC h' 22 D0 → (∀ k : Nat, k < 4 → h' 54 k = -1 ∧ h' 55 k = -1) → (∀ j, h' 73 j = 0 ∧ h' 74 j = 0) → (∀ c : Nat, c < 64 → h' 39 c = 0) → h' 41 5 = 0 → h' 41 4 = 0 → h' 46 7 = 0 → h' 46 9 = 0 → Rt none (S4 n, h')) : bg_Ca bg_MS (d + 4) 8 [vR 2] ([(16, n, []), (16, 7, [])] ++ [(8, 14, List.replicate 14 none)], h) Rt := by
  refine bg_ca (cd := cd_X8_init) rfl rfl ?_
  intro X hX
  iterate 5 (refine hX _ ?_; conv => whnf)
  refine hX _ ?_; conv => whnf
  refine c_3 (d + 2) n (bg_zero h 3 1) _ (fun h1 f1 => ?_)
  conv => whnf
  have g1 : ∀ k, k < 3 → h1 k = h k := fun k hk => by rw [f1 k (by omega)]; funext j; exact zr_ne hk
  have s3 : h1 3 3 = 0 := by rw [f1 3 (by omega)]; exact zr_in (by omega) (by omega)
  iterate 4 (refine hX _ ?_; conv => whnf)
  refine hX _ ?_; conv => whnf
  refine c_6 d n (bg_zero h1 6 1) _ (fun h2 f2 u2 => ?_)
  conv => whnf
  have g2 : ∀ k, k < 6 → h2 k = h1 k := fun k hk => by rw [f2 k (by omega)]; funext j; exact zr_ne hk
  iterate 4 (refine hX _ ?_; conv => whnf)
  refine hX _ ?_; conv => whnf
  refine c_22 d n (bg_zero h2 22 1) _ (fun h3 f3 u3 => ?_)
  conv => whnf
  have g3 : ∀ k, k < 22 → h3 k = h2 k := fun k hk => by rw [f3 k (by omega)]; funext j; exact zr_ne hk
  iterate 4 (refine hX _ ?_; conv => whnf)
  refine hX _ ?_; conv => whnf
  refine c_38 (d + 2) n (bg_zero h3 38 1) _ (fun h4 f4 u4 => ?_)
  conv => whnf
  have g4 : ∀ k, k < 38 → h4 k = h3 k := fun k hk => by rw [f4 k (by omega)]; funext j; exact zr_ne hk
  iterate 4 (refine hX _ ?_; conv => whnf)
  refine hX _ ?_; conv => whnf
  refine c_41 (d + 2) n (bg_zero h4 41 1) _ (fun h5 f5 => ?_)
  conv => whnf
  have g5 : ∀ k, k < 41 → h5 k = h4 k := fun k hk => by rw [f5 k (by omega)]; funext j; exact zr_ne hk
  have s41 : ∀ j, h5 41 j = 0 := fun j => by rw [f5 41 (by omega)]; exact zr_in (by omega) (by omega)
  iterate 4 (refine hX _ ?_; conv => whnf)
  refine hX _ ?_; conv => whnf
  refine c_46 (d + 2) n (bg_zero h5 46 1) _ (fun h6 f6 => ?_)
  conv => whnf
  have g6 : ∀ k, k < 46 → h6 k = h5 k := fun k hk => by rw [f6 k (by omega)]; funext j; exact zr_ne hk
  have s46 : ∀ j, h6 46 j = 0 := fun j => by rw [f6 46 (by omega)]; exact zr_in (by omega) (by omega)
  iterate 4 (refine hX _ ?_; conv => whnf)
  refine hX _ ?_; conv => whnf
  refine c_53 d n (bg_zero h6 53 1) _ (fun h7 f7 u7 => ?_)
  conv => whnf
  have g7 : ∀ k, k < 53 → h7 k = h6 k := fun k hk => by rw [f7 k (by omega)]; funext j; exact zr_ne hk
  iterate 4 (refine hX _ ?_; conv => whnf)
  refine hX _ ?_; conv => whnf
  refine c_56 (d + 2) n (bg_zero h7 56 1) _ (fun h8 f8 => ?_)
  conv => whnf
  have g8 : ∀ k, k < 56 → h8 k = h7 k := fun k hk => by rw [f8 k (by omega)]; funext j; exact zr_ne hk
  iterate 4 (refine hX _ ?_; conv => whnf)
  refine hX _ ?_; conv => whnf
  refine c_68 (d + 2) n (bg_zero h8 68 1) _ (fun h9 f9 => ?_)
  conv => whnf
  have g9 : ∀ k, k < 68 → h9 k = h8 k := fun k hk => by rw [f9 k (by omega)]; funext j; exact zr_ne hk
  iterate 3 (refine hX _ ?_; conv => whnf)
  refine hX _ ?_; conv => whnf
  refine ⟨by first | rfl | decide, ?_⟩
  iterate 3 (refine hX _ ?_; conv => whnf)
  refine hX _ ?_; conv => whnf
  refine ⟨by first | rfl | decide, ?_⟩
  iterate 3 (refine hX _ ?_; conv => whnf)
  refine hX _ ?_; conv => whnf
  refine ⟨by first | rfl | decide, ?_⟩
  iterate 3 (refine hX _ ?_; conv => whnf)
  refine hX _ ?_; conv => whnf
  refine ⟨by first | rfl | decide, ?_⟩
  refine hX _ ?_; conv => whnf
  change X (134, _, [], (SHm n 77 [some 3, some 6, some 22, some 38, some 41, some 46, some 53, some 56, some 68, some 73, some 74, some 75, some 76, none] [none, none] [none, none], (bg_zero (bg_zero (bg_zero (bg_zero h9 73 1) 74 1) 75 1) 76 1)), _)
  obtain ⟨ha, ea⟩ : ∃ ha : bg_G, ha = bg_zero (bg_zero (bg_zero (bg_zero h9 73 1) 74 1) 75 1) 76 1 := ⟨_, rfl⟩
  rw [← ea]
  have ga : ∀ k, k < 73 → ha k = h9 k := fun k hk => by rw [ea]; funext j; simp (disch := omega) only [zr_ne]
  have s7 : ∀ j, ha 73 j = 0 ∧ ha 74 j = 0 := fun j => by
    rw [ea]
    exact ⟨by rw [zr_ne (by omega), zr_ne (by omega), zr_ne (by omega), zr_in (by omega) (by omega)], by rw [zr_ne (by omega), zr_ne (by omega), zr_in (by omega) (by omega)]⟩
  clear ea
  iterate 4 (refine hX _ ?_; conv => whnf)
  refine hX _ ?_; conv => whnf
  refine ⟨fun q => absurd q (by decide), fun _ => ?_⟩
  iterate 5 (refine hX _ ?_; conv => whnf)
  refine hX _ ?_; conv => whnf
  refine c_77 d n (bg_zero ha 77 1) _ (fun h10 f10 u10 => ?_)
  conv => whnf
  refine hX _ ?_; conv => whnf
  refine ⟨by first | decide | omega, ?_⟩
  iterate 5 (refine hX _ ?_; conv => whnf)
  refine hX _ ?_; conv => whnf
  refine c_93 d n (bg_zero h10 93 1) _ (fun h11 f11 u11 => ?_)
  conv => whnf
  refine hX _ ?_; conv => whnf
  refine ⟨by first | decide | omega, ?_⟩
  iterate 4 (refine hX _ ?_; conv => whnf)
  refine hX _ ?_; conv => whnf
  refine ⟨fun q => absurd q (by decide), fun _ => ?_⟩
  iterate 5 (refine hX _ ?_; conv => whnf)
  refine hX _ ?_; conv => whnf
  refine c_96 d n (bg_zero h11 96 1) _ (fun h12 f12 u12 => ?_)
  conv => whnf
  refine hX _ ?_; conv => whnf
  refine ⟨by first | decide | omega, ?_⟩
  iterate 5 (refine hX _ ?_; conv => whnf)
  refine hX _ ?_; conv => whnf
  refine c_112 d n (bg_zero h12 112 1) _ (fun h13 f13 u13 => ?_)
  conv => whnf
  refine hX _ ?_; conv => whnf
  refine ⟨by first | decide | omega, ?_⟩
  iterate 4 (refine hX _ ?_; conv => whnf)
  refine hX _ ?_; conv => whnf
  refine ⟨fun _ => ?_, fun q => absurd q (by decide)⟩
  iterate 3 (refine hX _ ?_; conv => whnf)
  try simp only [kc0, kc1, kc2, kc3, kc4, kc5, kc6, kc7, kc8, kc9, kc10, kc11, kc12, kc13, kc14, kc15, kc16, kc17, kc18, kc19, kc20, kc21, kc22, kc23, kc24, kc25, kc26, kc27, kc28, kc29, kc30, kc31, kc32, kc33]
  have g10 : ∀ k, k < 77 → h13 k = ha k := fun k hk => by
    rw [f13 k (by omega)]; funext j; rw [zr_ne (by omega), f12 k (by omega), zr_ne (by omega), f11 k (by omega), zr_ne (by omega), f10 k (by omega), zr_ne (by omega)]
  have gz : ∀ k, k < 68 → bg_up h13 2 13 0 k = (if k = 2 then bg_up h13 2 13 0 2 else h9 k) := fun k hk => by
    by_cases c : k = 2
    · rw [if_pos c, c]
    · rw [if_neg c, bg_up_ne c, g10 k (by omega), ga k (by omega)]
  have q22 : holdC (bg_up h13 2 13 0) 22 D0 := holdC_fr u3 (fun k k1 k2 => by
    rw [gz k (by omega), if_neg (by omega), g9 k (by omega), g8 k (by omega), g7 k (by omega), g6 k (by omega), g5 k (by omega), g4 k (by omega)])
  have q39 : ∀ j, bg_up h13 2 13 0 39 j = 0 := fun j => by
    rw [gz 39 (by omega), if_neg (by omega), g9 39 (by omega), g8 39 (by omega), g7 39 (by omega), g6 39 (by omega), g5 39 (by omega)]
    exact u4 j
  have q41 : ∀ j, bg_up h13 2 13 0 41 j = 0 := fun j => by
    rw [gz 41 (by omega), if_neg (by omega), g9 41 (by omega), g8 41 (by omega), g7 41 (by omega), g6 41 (by omega)]
    exact s41 j
  have q46 : ∀ j, bg_up h13 2 13 0 46 j = 0 := fun j => by
    rw [gz 46 (by omega), if_neg (by omega), g9 46 (by omega), g8 46 (by omega), g7 46 (by omega)]
    exact s46 j
  refine hX _ ?_; conv => whnf
  refine hR (bg_up h13 2 13 0) ?_ ?_ ?_ ?_ q22 ?_ ?_ (fun c _ => q39 c) (q41 5) (q41 4) (q46 7) (q46 9)
  · rw [gz 0 (by omega), if_neg (by omega), g9 0 (by omega), g8 0 (by omega), g7 0 (by omega), g6 0 (by omega), g5 0 (by omega), g4 0 (by omega), g3 0 (by omega), g2 0 (by omega), g1 0 (by omega)]
  · rw [gz 1 (by omega), if_neg (by omega), g9 1 (by omega), g8 1 (by omega), g7 1 (by omega), g6 1 (by omega), g5 1 (by omega), g4 1 (by omega), g3 1 (by omega), g2 1 (by omega), g1 1 (by omega)]
  · rw [bg_up_self]
  · rw [gz 3 (by omega), if_neg (by omega), g9 3 (by omega), g8 3 (by omega), g7 3 (by omega), g6 3 (by omega), g5 3 (by omega), g4 3 (by omega), g3 3 (by omega), g2 3 (by omega)]
    exact s3
  · intro k hk
    rw [gz 54 (by omega), if_neg (by omega), g9 54 (by omega), g8 54 (by omega), gz 55 (by omega), if_neg (by omega), g9 55 (by omega), g8 55 (by omega)]
    exact u7 k hk
  · intro j
    rw [bg_up_ne (by omega), bg_up_ne (by omega), g10 73 (by omega), g10 74 (by omega)]
    exact s7 j
