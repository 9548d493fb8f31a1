/-! the class's land and the model's book 0 tell the same -/
def REL (h : bg_G) : Prop := okC h ∧ okM h ∧ TM h ∧ (h 22 3 = h 117 0 ∧ h 22 4 = h 119 0 ∧ h 22 5 = h 121 0 ∧ h 22 6 = h 121 1 ∧ h 22 7 = h 121 2) ∧ (∀ p : Nat, (p : Int) < h 117 0 → ∀ i : Int, 0 ≤ i → i < 7 → h (24 + p) i = h 118 (7 * p + i)) ∧ (∀ p : Nat, h 117 0 ≤ p → p < 12 → ∀ i : Int, 0 ≤ i → i < 7 → h (24 + p) i = 0) ∧ (∀ t : Nat, (t : Int) < h 119 0 → h 36 t = bg_or (bg_shl 1 (h 120 (3 * t))) (bg_shl 1 (h 120 (3 * t + 1))) ∧ h 37 t = h 120 (3 * t + 2))
theorem bg_or_w (x y : Int) : bg_w (bg_or x y) = bg_or x y := by
  unfold bg_w bg_or
  rw [Int32.ofInt_toInt]
theorem bg_or_z (x : Int) : bg_or x 0 = bg_w x := by
  unfold bg_w bg_or
  rw [show Int32.ofInt 0 = 0 from rfl, Int32.or_zero]
theorem okS_ex {h : bg_G} (ho : okM h) {s : Int} (h1 : s ≤ 2147483647) (hs : okS (h 117 0) (h 119 0) s) : ∃ a b : Nat, a < 2 ^ (h 117 0).toNat ∧ b < 2 ^ (h 119 0).toNat ∧ s = ((a + 4096 * b : Nat) : Int) ∧ a < 2 ^ 12 ∧ b < 2 ^ 3 := by
  have hn := ho.1
  rw [show h 117 0 = ((h 117 0).toNat : Int) by omega, show h 119 0 = ((h 119 0).toNat : Int) by omega, okS_iff (by omega) (by omega) h1] at hs
  obtain ⟨a, b, ha, hb, e⟩ := hs
  exact ⟨a, b, ha, hb, e, Nat.lt_of_lt_of_le ha (Nat.pow_le_pow_right (by decide) (by omega)), Nat.lt_of_lt_of_le hb (Nat.pow_le_pow_right (by decide) (by omega))⟩
theorem tb_lt {a n i : Nat} (ha : a < 2 ^ n) (hi : n ≤ i) : a.testBit i = false := Nat.testBit_lt_two_pow (Nat.lt_of_lt_of_le ha (Nat.pow_le_pow_right (by decide) hi))
theorem sm_ext {f : Nat → Int} {N : Nat} : ∀ M, N ≤ M → (∀ i, N ≤ i → i < M → f i = 0) → sm M f = sm N f
  | 0, h, _ => by rw [show N = 0 by omega]
  | M + 1, h, hf => by
    by_cases e : N = M + 1
    · rw [e]
    · rw [sm, sm_ext M (by omega) (fun i a b => hf i a (by omega)), hf M (by omega) (by omega), Int.add_zero]
theorem held_eq {h : bg_G} (hr : REL h) {s : Int} (h1 : s ≤ 2147483647) (hs : okS (h 117 0) (h 119 0) s) : heldC h s = heldM h s := by
  obtain ⟨-, ho, -, -, -, -, rt⟩ := hr
  have hn := ho.1
  obtain ⟨a, b, ha, hb, e, ha12, hb8⟩ := okS_ex ho h1 hs
  have key : ∀ n, n ≤ 3 → fo n (fun t a => if bt s (12 + t) = 0 then a else bg_or a (h 36 t)) (bg_and s 4095) = fo n (fun t a => bg_or a (if bt s (12 + t) = 0 then 0 else bg_or (bg_shl 1 (h 120 (3 * t))) (bg_shl 1 (h 120 (3 * t + 1))))) (bg_and s 4095) ∧ bg_w (fo n (fun t a => bg_or a (if bt s (12 + t) = 0 then 0 else bg_or (bg_shl 1 (h 120 (3 * t))) (bg_shl 1 (h 120 (3 * t + 1))))) (bg_and s 4095)) = fo n (fun t a => bg_or a (if bt s (12 + t) = 0 then 0 else bg_or (bg_shl 1 (h 120 (3 * t))) (bg_shl 1 (h 120 (3 * t + 1))))) (bg_and s 4095) := by
    intro n
    induction n with
    | zero => intro _; exact ⟨rfl, bg_and_w _ _⟩
    | succ n ih =>
      intro hn3
      obtain ⟨i1, i2⟩ := ih (by omega)
      refine ⟨?_, bg_or_w _ _⟩
      show (if bt s (12 + (n : Int)) = 0 then fo n _ _ else bg_or (fo n _ _) (h 36 n)) = bg_or (fo n _ _) (if bt s (12 + (n : Int)) = 0 then 0 else bg_or (bg_shl 1 (h 120 (3 * n))) (bg_shl 1 (h 120 (3 * n + 1))))
      by_cases c : bt s (12 + (n : Int)) = 0
      · rw [if_pos c, if_pos c, bg_or_z, i1, i2]
      · rw [if_neg c, if_neg c, i1]
        have hb1 : b.testBit n = true := by
          rw [e, show (12 + (n : Int)) = ((12 + n : Nat) : Int) by omega, bt_hi ha12 hb8 (by omega)] at c
          cases e2 : b.testBit n
          · rw [e2] at c; exact absurd rfl c
          · rfl
        have hlt : n < (h 119 0).toNat := by
          refine Decidable.byContradiction (fun c2 => ?_)
          rw [tb_lt hb (by omega)] at hb1
          exact absurd hb1 (by decide)
        rw [(rt n (by omega)).1]
  exact (key 3 (by omega)).1
theorem cost_eq {h : bg_G} (hr : REL h) {s : Int} (h1 : s ≤ 2147483647) (hs : okS (h 117 0) (h 119 0) s) : costC h s = costM h s := by
  obtain ⟨-, ho, -, -, rp, -, rt⟩ := hr
  have hn := ho.1
  obtain ⟨a, b, ha, hb, e, ha12, hb8⟩ := okS_ex ho h1 hs
  unfold costC costM
  congr 1
  · refine sm_congr (fun i hi => ?_)
    show bt s i * h (24 + i) 4 = bt s i * h 118 (7 * i + 4)
    by_cases c : (i : Int) < h 117 0
    · rw [rp i c 4 (by omega) (by omega)]
    · rw [e, bt_lo ha12 hb8 hi, tb_lt ha (by omega)]
      simp
  · refine sm_congr (fun t ht => ?_)
    show bt s (12 + t) * h 37 t = bt s (12 + t) * h 120 (3 * t + 2)
    by_cases c : (t : Int) < h 119 0
    · rw [(rt t c).2]
    · rw [e, show (12 + (t : Int)) = ((12 + t : Nat) : Int) by omega, bt_hi ha12 hb8 ht, tb_lt hb (by omega)]
      simp
theorem wait_eq {h : bg_G} (hr : REL h) {m : Nat} (hm : m < 2 ^ (h 117 0).toNat) : waitC h m = waitM h m := by
  obtain ⟨-, ho, -, -, rp, -, -⟩ := hr
  have hn := ho.1
  have hm12 : m < 2 ^ 12 := Nat.lt_of_lt_of_le hm (Nat.pow_le_pow_right (by decide) (by omega))
  unfold waitC waitM
  refine sm_congr (fun i hi => ?_)
  show bt m i * h (24 + i) 6 = bt m i * h 118 (7 * i + 6)
  by_cases c : (i : Int) < h 117 0
  · rw [rp i c 6 (by omega) (by omega)]
  · rw [bt_tb (by omega) (by omega), tb_lt hm (by omega)]
    simp
theorem bear_eq {h : bg_G} (hr : REL h) {p : Nat} (hp : (p : Int) < h 117 0) (held : Int) {b : Int} (hb : 0 ≤ b ∧ b ≤ 1) : bearC h held p b = bearM h held p b := by
  have rp := hr.2.2.2.2.1 p hp
  have hn := hr.2.1.1.1
  have ho := hr.1.2.1 p (by omega)
  unfold bearC hT bearM
  rw [rp 2 (by omega) (by omega)] at ho
  rw [rp 2 (by omega) (by omega), rp 5 (by omega) (by omega)]
  by_cases c : bt held p = 0
  · rw [if_pos c, if_pos c, bg_div100 (by omega)]
    omega
  · rw [if_neg c, if_neg c]
theorem bear_0 {h : bg_G} (hr : REL h) {p : Nat} (hp : h 117 0 ≤ p) (hp2 : p < 12) (held : Int) : bearC h held p 0 = 0 := by
  have rz := hr.2.2.2.2.2.1 p hp hp2
  unfold bearC
  rw [rz 2 (by omega) (by omega), Int.zero_add, Int.zero_mul, bg_div100 (by omega)]
  rfl
/-- the cuts are those of the land -/
def svC (h : bg_G) : Prop := ∀ c : Nat, c < 64 → h 39 c = outC h c
def outP (A B : Nat → Int) (S : Int) (p : Nat) : Bool := decide (bt S (A p) = 1) && decide (bt S (B p) = 0)
theorem outC_st {h : bg_G} (hr : REL h) (c : Nat) : outC h c = (stN (h 117 0).toNat (outP (fun p => h 118 (7 * p)) (fun p => h 118 (7 * p + 1)) (plc c)) : Nat) := by
  obtain ⟨-, ho, -, r0, rp, -, -⟩ := hr
  have hn := ho.1
  unfold outC
  rw [r0.1]
  refine fo_st (by omega) (fun p a hp => ?_)
  have e0 := rp p (by omega) 0 (by omega) (by omega)
  have e1 := rp p (by omega) 1 (by omega) (by omega)
  rw [Int.add_zero] at e0
  rw [e0, e1]
  unfold outP
  rcases bt_01 (plc c) (h 118 (7 * p)) with x | x <;> rcases bt_01 (plc c) (h 118 (7 * p + 1)) with y | y <;> simp [x, y]
theorem outM_st {h : bg_G} (ho : okM h) (S : Int) : outM h S = (stN (h 117 0).toNat (outP (fun p => h 118 (7 * p)) (fun p => h 118 (7 * p + 1)) S) : Nat) := by
  have hn := ho.1
  unfold outM
  refine fo_st2 (by omega) (fun p a hp => ?_)
  unfold outP
  rcases bt_01 S (h 118 (7 * p)) with x | x <;> rcases bt_01 S (h 118 (7 * p + 1)) with y | y <;> simp [x, y]
theorem cut_eq {h : bg_G} (hr : REL h) (hs : svC h) {held one one' : Int} (h1 : (one = -1 ∧ one' = -4) ∨ (one = one' ∧ 0 ≤ one ∧ one < h 117 0)) {c : Nat} (hc : c < 64) : cutC h held one c = cutM (h 117 0).toNat (fun p => h 118 (7 * p)) (fun p => h 118 (7 * p + 1)) (brM h held one') (2 * c + 1) := by
  have ho := hr.2.1
  have hn := ho.1
  unfold cutC cutM
  rw [hs c hc, outC_st hr c, plc_eq c hc]
  rw [sm_ext (N := (h 117 0).toNat) 12 (by omega) (fun i a b => by
    rw [bt_st (by omega) (by omega), if_neg (fun e => by omega), Int.zero_mul])]
  refine sm_congr (fun p hp => ?_)
  rw [bt_st (by omega) (by omega)]
  have eb : brC h held one p = brM h held one' p := by
    unfold brC brM
    rw [bear_eq hr (by omega) _ (by split <;> omega)]
    congr 1
    rcases h1 with ⟨e1, e2⟩ | ⟨e1, e2⟩
    · rw [if_neg (by omega), if_neg (by omega)]
    · rw [e1]
  rw [eb]
  unfold outP
  generalize (2 * c + 1 : Nat) = T
  rcases bt_01 (T : Int) (h 118 (7 * p)) with x | x <;> rcases bt_01 (T : Int) (h 118 (7 * p + 1)) with y | y <;> simp [x, y, hp]
theorem wls_congr {f f' g : Nat → Int} : ∀ N, (∀ c, c < N → f c = f' c) → wls f g N = wls f' g N
  | 0, _ => rfl
  | N + 1, h => by
    have ih := wls_congr (g := g) N (fun c hc => h c (by omega))
    unfold wls
    rw [ih, h N (by omega)]
theorem mc_eq {h : bg_G} (hr : REL h) (hs : svC h) {held one one' : Int} (h1 : (one = -1 ∧ one' = -4) ∨ (one = one' ∧ 0 ≤ one ∧ one < h 117 0)) : mcC h held one = mcM h held one' := by
  unfold mcC mcM mcT
  exact wls_congr 64 (fun c hc => cut_eq hr hs h1 hc)
theorem out_eq {h : bg_G} (hr : REL h) (hs : svC h) {S : Nat} (h1 : S < 256) (h2 : bt S 0 = 1) (h3 : bt S 7 = 0) : h 39 (bg_and (bg_shr S 1) 63) = outM h S := by
  obtain ⟨e, hc⟩ := plc_all S h1 h2 h3
  have e1 : bg_and (bg_shr S 1) 63 = ((S / 2 : Nat) : Int) := by
    rw [show (1 : Int) = ((1 : Nat) : Int) from rfl, bn_shr (by omega) (by omega), show (63 : Int) = ((63 : Nat) : Int) from rfl, bn_and (by omega) (by omega), show (63 : Nat) = 2 ^ 6 - 1 from rfl, Nat.and_two_pow_sub_one_eq_mod, Nat.pow_one, Nat.mod_eq_of_lt (by omega)]
  rw [e1, hs _ hc, outC_st hr, outM_st hr.2.1, plc_eq _ hc, ← e]
theorem wls_S {f : Nat → Int} (hf : ∀ c, c < 64 → f c < 2147483647) : ∀ c, c ≤ 64 → c = 0 ∨ ∃ S : Nat, (wls f plc c).2 = S ∧ S < 256 ∧ bt S 0 = 1 ∧ bt S 7 = 0
  | 0, _ => Or.inl rfl
  | c + 1, hc => by
    right
    have ih := wls_S hf c (by omega)
    have hb := plc_bits c (by omega)
    have hp := plc_eq c (by omega)
    have h1 := hf c (by omega)
    have h0 : c = 0 → (wls f plc c).1 = 2147483647 := fun e => by rw [e]; rfl
    unfold wls
    split
    · exact ⟨2 * c + 1, hp, by omega, hb.1, hb.2⟩
    · rename_i x
      rcases ih with e | ⟨S, e1, e2, e3, e4⟩
      · have := h0 e
        omega
      · exact ⟨S, e1, e2, e3, e4⟩
theorem mcM_S {h : bg_G} (ho : okM h) (held one : Int) : ∃ S : Nat, (mcM h held one).2 = S ∧ S < 256 ∧ bt S 0 = 1 ∧ bt S 7 = 0 := by
  have hn := ho.1
  have := wls_S (f := fun c => cutM (h 117 0).toNat (fun p => h 118 (7 * p)) (fun p => h 118 (7 * p + 1)) (brM h held one) (2 * c + 1)) (fun c _ => by
    have rg := cutM_rg (N := (h 117 0).toNat) (A := fun p => h 118 (7 * p)) (B := fun p => h 118 (7 * p + 1)) (cap := brM h held one) (T := 2 * c + 1) (by omega) (fun p hp => brM_rg ho (by omega))
    have := rg.2
    exact Int.lt_of_le_of_lt this (by decide)) 64 (Nat.le_refl _)
  rcases this with e | r
  · exact absurd e (by decide)
  · exact r
/-! ways -/
def wsC (h : bg_G) : List (List Nat) := wsG (h 22 3).toNat (fun p => h (24 + p) 0) (fun p => h (24 + p) 1)
theorem fm_congr {F G : Nat → List (List Nat)} : ∀ l : List Nat, (∀ p ∈ l, F p = G p) → l.flatMap F = l.flatMap G
  | [], _ => rfl
  | p :: l, h => by rw [List.flatMap_cons, List.flatMap_cons, h p List.mem_cons_self, fm_congr l (fun q hq => h q (List.mem_cons_of_mem _ hq))]
theorem ite_cg {P Q : Prop} [Decidable P] [Decidable Q] {x y z : List (List Nat)} (h : P ↔ Q) (e : x = y) : (if P then x else z) = (if Q then y else z) := by
  by_cases c : P
  · rw [if_pos c, if_pos (h.mp c), e]
  · rw [if_neg c, if_neg (fun q => c (h.mpr q))]
theorem wf_z {np : Nat} {A B : Nat → Int} {pl seen : Int} : wf np A B 0 pl seen = if pl = 7 then [[]] else [] := by simp only [wf]
theorem wf_s {np : Nat} {A B : Nat → Int} {k : Nat} {pl seen : Int} : wf np A B (k + 1) pl seen = if pl = 7 then [[]] else (List.range np).flatMap (fun p => if A p = pl ∧ bt seen (B p) = 0 then (wf np A B k (B p) (bg_or seen (bg_shl 1 (B p)))).map (p :: ·) else []) := by simp only [wf]
theorem wf_congr {np : Nat} {A B A' B' : Nat → Int} (hA : ∀ p, p < np → A p = A' p) (hB : ∀ p, p < np → B p = B' p) : ∀ (k : Nat) (pl seen : Int), wf np A B k pl seen = wf np A' B' k pl seen := by
  intro k
  induction k with
  | zero => intro pl seen; rw [wf_z, wf_z]
  | succ k ihk =>
    intro pl seen
    rw [wf_s, wf_s]
    by_cases h7 : pl = 7
    · rw [if_pos h7, if_pos h7]
    · rw [if_neg h7, if_neg h7]
      refine fm_congr _ (fun p hp => ?_)
      have hp := List.mem_range.mp hp
      have a := hA p hp
      have b := hB p hp
      refine ite_cg ?_ ?_
      · rw [a, b]
      · rw [b, ihk]
theorem ws_eq {h : bg_G} (hr : REL h) : wsC h = wsM h := by
  obtain ⟨-, ho, -, r0, rp, -, -⟩ := hr
  have hn := ho.1
  unfold wsC wsM wsG
  rw [r0.1, wf_congr (A' := fun p => h 118 (7 * p)) (B' := fun p => h 118 (7 * p + 1)) (fun p hp => by
    have := rp p (by omega) 0 (by omega) (by omega)
    rw [Int.add_zero] at this
    exact this) (fun p hp => rp p (by omega) 1 (by omega) (by omega))]
theorem thr_congr {a0 a1 : Int} {b b' : Nat → Int} {pt : Nat → Nat} : ∀ len, (∀ i, i < len → b (pt i) = b' (pt i) ∧ b (pt i) < a0 ∧ b (pt i) < a1) → 1 ≤ len → thr a0 b len pt = thr a1 b' len pt
  | 0, _, h => by omega
  | 1, h, _ => by
    have := h 0 (by omega)
    show (if b (pt 0) < a0 then b (pt 0) else a0) = (if b' (pt 0) < a1 then b' (pt 0) else a1)
    rw [if_pos (by omega), if_pos (by omega), this.1]
  | len + 2, h, _ => by
    have ih := thr_congr (len + 1) (fun i hi => h i (by omega)) (by omega)
    have := h (len + 1) (by omega)
    show (if b (pt (len + 1)) < thr a0 b (len + 1) pt then b (pt (len + 1)) else thr a0 b (len + 1) pt) = (if b' (pt (len + 1)) < thr a1 b' (len + 1) pt then b' (pt (len + 1)) else thr a1 b' (len + 1) pt)
    rw [ih, this.1]
theorem wsM_pt {h : bg_G} (ho : okM h) {w : Nat} (hw : w < (wsM h).length) : (1 ≤ lenW (wsM h) w ∧ lenW (wsM h) w ≤ 7) ∧ ∀ i, i < lenW (wsM h) w → (ptW (wsM h) w i : Int) < h 117 0 := by
  have hn := ho.1
  obtain ⟨l, e, m1, m2, m3⟩ := wsG_mem hw
  obtain ⟨p1, p2⟩ := ptW_some e
  have p1 : lenW (wsM h) w = l.length := p1
  rw [p1]
  refine ⟨⟨m3, m2⟩, fun i hi => ?_⟩
  have : ptW (wsM h) w i < (h 117 0).toNat := m1 _ (p2 i hi).2
  omega
theorem thr_eq {h : bg_G} (hr : REL h) {held : Int} {w : Nat} (hw : w < (wsM h).length) : thrC h (wsM h) held w = thrM h held w := by
  have ho := hr.2.1
  have hn := ho.1
  obtain ⟨a, b⟩ := wsM_pt ho hw
  unfold thrC thrM
  refine thr_congr _ (fun i hi => ?_) a.1
  have hb := b i hi
  have := bearM_rg ho (held := held) (b := 0) (p := ptW (wsM h) w i) (by omega) (by omega)
  rw [bear_eq hr hb _ (by omega)]
  exact ⟨rfl, by omega, by omega⟩
theorem gn_congr {w1 : Int} {K Z K' Z' : Nat → Int} {held : Int} {len : Nat} {pt : Nat → Nat} (h : ∀ i, i < len → K (pt i) = K' (pt i) ∧ Z (pt i) = Z' (pt i)) : gn w1 K Z held len pt = gn w1 K' Z' held len pt := by
  unfold gn
  have e1 : (fun (i : Nat) (a : Int) => a * (if i < len then 100 - bt held (pt i) * Z (pt i) else 100)) = (fun (i : Nat) (a : Int) => a * (if i < len then 100 - bt held (pt i) * Z' (pt i) else 100)) := by
    funext i a
    by_cases c : i < len
    · rw [if_pos c, if_pos c, (h i c).2]
    · rw [if_neg c, if_neg c]
  have e2 : (fun i : Nat => if i < len then K (pt i) else 0) = (fun i : Nat => if i < len then K' (pt i) else 0) := by
    funext i
    by_cases c : i < len
    · rw [if_pos c, if_pos c, (h i c).1]
    · rw [if_neg c, if_neg c]
  rw [e1, e2]
theorem g_eq {h : bg_G} (hr : REL h) {held : Int} {w : Nat} (hw : w < (wsM h).length) : gC h held (lenW (wsM h)) (ptW (wsM h)) w = gnM h held w := by
  have ho := hr.2.1
  obtain ⟨a, b⟩ := wsM_pt ho hw
  unfold gC gnM gM
  rw [hr.2.2.2.1.2.2.2.1]
  refine gn_congr (fun i hi => ?_)
  have rp := hr.2.2.2.2.1 _ (b i hi)
  exact ⟨rp 3 (by omega) (by omega), rp 5 (by omega) (by omega)⟩
theorem isp_ok {h : bg_G} (hr : REL h) {s : Int} (hs : i32 s) : spC h s ↔ okS (h 117 0) (h 119 0) s := by
  obtain ⟨-, ho, -, r0, -, -, -⟩ := hr
  have hn := ho.1
  unfold spC
  rw [r0.1, r0.2.1]
  constructor
  · intro e
    refine ⟨?_, e⟩
    refine Decidable.byContradiction (fun c => ?_)
    have := isp_neg (np := (h 117 0).toNat) (nt := (h 119 0).toNat) (by omega) (by omega) hs.1 (by omega)
    rw [show ((h 117 0).toNat : Int) = h 117 0 by omega, show ((h 119 0).toNat : Int) = h 119 0 by omega] at this
    omega
  · intro e; exact e.2
