/-! a land as the text tells it: paths (seven numbers each), towers (three), coin, worth, else -/
abbrev LD : Type := List (List Int) × List (List Int) × Int × Int × Int
def gl (l : List Int) (i : Nat) : Int := (l[i]?).getD 0
def gr (P : List (List Int)) (p i : Nat) : Int := gl ((P[p]?).getD []) i
theorem gr_snoc (P : List (List Int)) (l : List Int) (p i : Nat) : gr (P ++ [l]) p i = if p < P.length then gr P p i else if p = P.length then gl l i else 0 := by
  unfold gr
  by_cases c : p < P.length
  · rw [if_pos c, List.getElem?_append_left c]
  · rw [if_neg c, List.getElem?_append_right (by omega)]
    by_cases c2 : p = P.length
    · rw [if_pos c2, c2, Nat.sub_self]
      rfl
    · rw [if_neg c2, List.getElem?_eq_none (by simp; omega)]
      rfl
theorem gr_no {P : List (List Int)} {p : Nat} (h : P.length ≤ p) (i : Nat) : gr P p i = 0 := by
  unfold gr
  rw [List.getElem?_eq_none h]
  rfl
def lim (i : Nat) : Int := gl [7, 7, 99, 99, 20, 100, 99] i
def okP (l : List Int) : Prop := gl l 0 ≠ gl l 1 ∧ ∀ i, i < 7 → gl l i ≤ lim i
def okPb (l : List Int) : Bool := decide (gl l 0 ≠ gl l 1) && (List.range 7).all (fun i => decide (gl l i ≤ lim i))
theorem okP_iff (l : List Int) : okPb l = true ↔ okP l := by
  unfold okPb okP
  rw [Bool.and_eq_true, decide_eq_true_eq, List.all_eq_true]
  constructor
  · intro ⟨a, b⟩
    exact ⟨a, fun i hi => by have := b i (List.mem_range.2 hi); simpa using this⟩
  · intro ⟨a, b⟩
    exact ⟨a, fun i hi => by have := b i (List.mem_range.1 hi); simpa using this⟩
theorem okP_of {l : List Int} (h : okPb l = true) : okP l := (okP_iff l).1 h
def D0 : LD := ([], [], 0, 100, 0)
def gs (T : List (List Int)) (t : Nat) : Int := if t < T.length then bg_or (bg_shl 1 (gr T t 0)) (bg_shl 1 (gr T t 1)) else 0
/-- the class's land o holds D -/
def holdC (h : bg_G) (o : Nat) (D : LD) : Prop := (h o 3 = D.1.length ∧ h o 4 = D.2.1.length ∧ h o 5 = D.2.2.1 ∧ h o 6 = D.2.2.2.1 ∧ h o 7 = D.2.2.2.2) ∧ (∀ p : Nat, p < 12 → ∀ i : Nat, i < 7 → h (o + 2 + p) i = gr D.1 p i) ∧ ∀ t : Nat, t < 3 → h (o + 14) t = gs D.2.1 t ∧ h (o + 15) t = gr D.2.1 t 2
/-- the model's book B holds D -/
def holdM (h : bg_G) (B : Nat) (D : LD) : Prop := (h 117 B = D.1.length ∧ h 119 B = D.2.1.length ∧ h 121 (3 * B) = D.2.2.1 ∧ h 121 (3 * B + 1) = D.2.2.2.1 ∧ h 121 (3 * B + 2) = D.2.2.2.2) ∧ (∀ p : Nat, p < D.1.length → ∀ i : Nat, i < 7 → h 118 (84 * B + 7 * p + i) = gr D.1 p i) ∧ ∀ t : Nat, t < D.2.1.length → ∀ i : Nat, i < 3 → h 120 (9 * B + 3 * t + i) = gr D.2.1 t i
/-- what lies in book B, used or not, is in range -/
def rgB (h : bg_G) (B : Nat) : Prop := (∀ p : Nat, p < 12 → ∀ i : Nat, i < 7 → 0 ≤ h 118 (84 * B + 7 * p + i) ∧ h 118 (84 * B + 7 * p + i) ≤ lim i) ∧ ∀ t : Nat, t < 3 → (0 ≤ h 120 (9 * B + 3 * t) ∧ h 120 (9 * B + 3 * t) ≤ 11) ∧ (0 ≤ h 120 (9 * B + 3 * t + 1) ∧ h 120 (9 * B + 3 * t + 1) ≤ 11) ∧ (0 ≤ h 120 (9 * B + 3 * t + 2) ∧ h 120 (9 * B + 3 * t + 2) ≤ 20)
def okD (D : LD) : Prop := (D.1.length ≤ 12 ∧ D.2.1.length ≤ 3 ∧ (0 ≤ D.2.2.1 ∧ D.2.2.1 ≤ 300) ∧ (0 ≤ D.2.2.2.1 ∧ D.2.2.2.1 ≤ 999) ∧ (0 ≤ D.2.2.2.2 ∧ D.2.2.2.2 ≤ 999)) ∧ (∀ p, p < D.1.length → ∀ i, i < 7 → 0 ≤ gr D.1 p i ∧ gr D.1 p i ≤ lim i) ∧ ∀ t, t < D.2.1.length → (0 ≤ gr D.2.1 t 0 ∧ gr D.2.1 t 0 < D.1.length) ∧ (0 ≤ gr D.2.1 t 1 ∧ gr D.2.1 t 1 < D.1.length) ∧ (0 ≤ gr D.2.1 t 2 ∧ gr D.2.1 t 2 ≤ 20)
theorem okD_0 : okD D0 := ⟨⟨by decide, by decide, by decide, by decide, by decide⟩, fun p hp => absurd hp (by simp [D0]), fun t ht => absurd ht (by simp [D0])⟩
/-- what an item of letter c with the numbers l makes of D -/
def tk (c : Int) (s : Nat) (l : List Int) (D : LD) : Option LD := if c = 112 then (if s = 7 ∧ okPb l = true ∧ D.1.length < 12 then some (D.1 ++ [l], D.2) else none) else if c = 116 then (if s = 3 ∧ (gl l 0 < D.1.length ∧ gl l 1 < D.1.length ∧ gl l 0 ≠ gl l 1 ∧ gl l 2 ≤ 20) ∧ D.2.1.length < 3 then some (D.1, D.2.1 ++ [l], D.2.2) else none) else if s = 1 then (if c = 99 then (if gl l 0 ≤ 300 then some (D.1, D.2.1, gl l 0, D.2.2.2) else none) else if c = 118 then some (D.1, D.2.1, D.2.2.1, gl l 0, D.2.2.2.2) else if c = 111 then some (D.1, D.2.1, D.2.2.1, D.2.2.2.1, gl l 0) else none) else none
def cnt (c : Int) : Nat := if c = 112 then 7 else if c = 116 then 3 else 1
/-- an item at a -/
def itemF (b : Nat → Int) (a : Nat) (D : LD) : Option (LD × Nat) := match nums b (cnt (b a)) (a + 1) with
  | some (l, e) => (match tk (b a) (cnt (b a)) l D with
    | some D' => some (D', e)
    | none => none)
  | none => none
def readF (b : Nat → Int) (L : Nat) : Nat → Nat → LD → Int × LD
  | 0, _, D => (-4, D)
  | f + 1, a, D => if a < L then (match itemF b a D with
    | some (D', e) => readF b L f e D'
    | none => ((a : Int), D)) else (-4, D)
theorem gl_rg {l : List Int} (h : ∀ x ∈ l, 0 ≤ x ∧ x ≤ 999) (i : Nat) : 0 ≤ gl l i ∧ gl l i ≤ 999 := by
  unfold gl
  cases hi : l[i]? with
  | none => exact ⟨by simp, by simp⟩
  | some x => exact h x (List.mem_of_getElem? hi)
theorem tk_cnt {c : Int} {s : Nat} {l : List Int} {D : LD} (hs : s ≠ cnt c) : tk c s l D = none := by
  unfold tk cnt at *
  by_cases c1 : c = 112
  · rw [if_pos c1] at hs ⊢
    rw [if_neg (fun x => hs x.1)]
  · rw [if_neg c1] at hs ⊢
    by_cases c2 : c = 116
    · rw [if_pos c2] at hs ⊢
      rw [if_neg (fun x => hs x.1)]
    · rw [if_neg c2] at hs ⊢
      rw [if_neg hs]
theorem tk_ok {c : Int} {s : Nat} {l : List Int} {D D' : LD} (hD : okD D) (hl : ∀ x ∈ l, 0 ≤ x ∧ x ≤ 999) (h : tk c s l D = some D') : okD D' := by
  obtain ⟨⟨a1, a2, a3, a4, a5⟩, b, e⟩ := hD
  have g := gl_rg hl
  unfold tk at h
  split at h
  · split at h
    · rename_i c1 c2
      simp only [Option.some.injEq] at h
      subst h
      have ok := okP_of c2.2.1
      refine ⟨⟨by simp; omega, a2, a3, a4, a5⟩, fun p hp i hi => ?_, fun t ht => ?_⟩
      · show 0 ≤ gr (D.1 ++ [l]) p i ∧ gr (D.1 ++ [l]) p i ≤ lim i
        rw [gr_snoc]
        have hp : p < (D.1 ++ [l]).length := hp
        simp at hp
        split
        · exact b p (by assumption) i hi
        · rw [if_pos (by omega)]
          exact ⟨(g i).1, ok.2 i hi⟩
      · have := e t ht
        show (0 ≤ gr D.2.1 t 0 ∧ gr D.2.1 t 0 < ((D.1 ++ [l]).length : Nat)) ∧ (0 ≤ gr D.2.1 t 1 ∧ gr D.2.1 t 1 < ((D.1 ++ [l]).length : Nat)) ∧ _
        simp
        exact ⟨⟨this.1.1, by omega⟩, ⟨this.2.1.1, by omega⟩, this.2.2⟩
    · exact absurd h (by simp)
  · split at h
    · split at h
      · rename_i c1 c2 c3
        simp only [Option.some.injEq] at h
        subst h
        refine ⟨⟨a1, by simp; omega, a3, a4, a5⟩, b, fun t ht => ?_⟩
        have ht : t < (D.2.1 ++ [l]).length := ht
        simp at ht
        show (0 ≤ gr (D.2.1 ++ [l]) t 0 ∧ gr (D.2.1 ++ [l]) t 0 < (D.1.length : Nat)) ∧ (0 ≤ gr (D.2.1 ++ [l]) t 1 ∧ gr (D.2.1 ++ [l]) t 1 < (D.1.length : Nat)) ∧ (0 ≤ gr (D.2.1 ++ [l]) t 2 ∧ gr (D.2.1 ++ [l]) t 2 ≤ 20)
        rw [gr_snoc, gr_snoc, gr_snoc]
        by_cases c4 : t < D.2.1.length
        · rw [if_pos c4, if_pos c4, if_pos c4]
          exact e t c4
        · rw [if_neg c4, if_neg c4, if_neg c4, if_pos (by omega), if_pos (by omega), if_pos (by omega)]
          have g0 := g 0
          have g1 := g 1
          have g2 := g 2
          have := c3.2.1
          omega
      · exact absurd h (by simp)
    · split at h
      · have g0 := g 0
        split at h
        · split at h
          · simp only [Option.some.injEq] at h
            subst h
            exact ⟨⟨a1, a2, ⟨g0.1, by assumption⟩, a4, a5⟩, b, e⟩
          · exact absurd h (by simp)
        · split at h
          · simp only [Option.some.injEq] at h
            subst h
            exact ⟨⟨a1, a2, a3, g0, a5⟩, b, e⟩
          · split at h
            · simp only [Option.some.injEq] at h
              subst h
              exact ⟨⟨a1, a2, a3, a4, g0⟩, b, e⟩
            · exact absurd h (by simp)
      · exact absurd h (by simp)
theorem nums_c {b : Nat → Int} {k a : Nat} (h : nums b (k + 1) a ≠ none) : b (a + dgs b 4 a) = (if k = 0 then 59 else 44) ∧ nums b k (a + dgs b 4 a + 1) ≠ none := by
  rw [nums_s] at h
  by_cases c : (1 ≤ dgs b 4 a ∧ dgs b 4 a ≤ 3) ∧ b (a + dgs b 4 a) = (if k = 0 then 59 else 44)
  · rw [if_pos c] at h
    refine ⟨c.2, fun e => ?_⟩
    rw [e] at h
    exact h rfl
  · rw [if_neg c] at h
    exact absurd rfl h
theorem nums_uniq {b : Nat → Int} : ∀ (s s' a : Nat), nums b (s + 1) a ≠ none → nums b (s' + 1) a ≠ none → s = s'
  | 0, 0, _, _, _ => rfl
  | 0, s' + 1, a, h, h' => by
    exfalso
    have x := (nums_c h).1
    have y := (nums_c h').1
    rw [if_pos rfl] at x
    rw [if_neg (by omega)] at y
    omega
  | s + 1, 0, a, h, h' => by
    exfalso
    have x := (nums_c h).1
    have y := (nums_c h').1
    rw [if_neg (by omega)] at x
    rw [if_pos rfl] at y
    omega
  | s + 1, s' + 1, a, h, h' => by
    have := nums_uniq (b := b) s s' (a + dgs b 4 a + 1) (nums_c h).2 (nums_c h').2
    omega
/-- the item by what the class reads: so many numbers as there are -/
theorem item_some {b : Nat → Int} {a s : Nat} {l : List Int} {e : Nat} {D : LD} (hs : 1 ≤ s) (hn : nums b s (a + 1) = some (l, e)) : itemF b a D = (match tk (b a) s l D with
    | some D' => some (D', e)
    | none => none) := by
  have hc : 1 ≤ cnt (b a) := by unfold cnt; split <;> (try split) <;> omega
  unfold itemF
  by_cases c : s = cnt (b a)
  · rw [← c, hn]
  · rw [tk_cnt c]
    obtain ⟨q, rfl⟩ : ∃ q, s = q + 1 := ⟨s - 1, by omega⟩
    obtain ⟨q', hq⟩ : ∃ q', cnt (b a) = q' + 1 := ⟨cnt (b a) - 1, by omega⟩
    cases hx : nums b (cnt (b a)) (a + 1) with
    | none => rfl
    | some p =>
      exfalso
      rw [hq] at hx c
      exact c (by rw [nums_uniq q q' (a + 1) (by rw [hn]; simp) (by rw [hx]; simp)])
theorem item_none {b : Nat → Int} {a : Nat} {D : LD} (hn : ∀ s, 1 ≤ s → s ≤ 7 → nums b s (a + 1) = none) : itemF b a D = none := by
  have hc : 1 ≤ cnt (b a) ∧ cnt (b a) ≤ 7 := by unfold cnt; split <;> (try split) <;> omega
  unfold itemF
  rw [hn _ hc.1 hc.2]
theorem item_e {T : Int → Int} {L a : Nat} {D D' : LD} {e : Nat} (h : itemF (byt T L) a D = some (D', e)) : a < e ∧ e ≤ L ∧ (okD D → okD D') := by
  have hc : 1 ≤ cnt (byt T L a) ∧ cnt (byt T L a) ≤ 7 := by unfold cnt; split <;> (try split) <;> omega
  unfold itemF at h
  cases hn : nums (byt T L) (cnt (byt T L a)) (a + 1) with
  | none => rw [hn] at h; exact absurd h (by simp)
  | some p =>
    obtain ⟨l, e'⟩ := p
    rw [hn] at h
    have nr := nums_rg _ _ l e' hn
    cases ht : tk (byt T L a) (cnt (byt T L a)) l D with
    | none =>
      have h : (match tk (byt T L a) (cnt (byt T L a)) l D with
        | some D' => some (D', e')
        | none => none) = some (D', e) := h
      rw [ht] at h
      exact absurd h (by simp)
    | some D2 =>
      have h : (match tk (byt T L a) (cnt (byt T L a)) l D with
        | some D' => some (D', e')
        | none => none) = some (D', e) := h
      rw [ht] at h
      simp only [Option.some.injEq, Prod.mk.injEq] at h
      obtain ⟨rfl, rfl⟩ := h
      exact ⟨by omega, nr.2.2.2.1 hc.1, fun hD => tk_ok hD nr.2.2.2.2 ht⟩
theorem readF_rg {T : Int → Int} {L : Nat} : ∀ (f a : Nat) (D : LD), okD D → okD (readF (byt T L) L f a D).2 ∧ ((readF (byt T L) L f a D).1 = -4 ∨ (0 ≤ (readF (byt T L) L f a D).1 ∧ (readF (byt T L) L f a D).1 < L))
  | 0, a, D, hD => ⟨hD, Or.inl rfl⟩
  | f + 1, a, D, hD => by
    unfold readF
    by_cases c : a < L
    · rw [if_pos c]
      cases hi : itemF (byt T L) a D with
      | none => exact ⟨hD, Or.inr ⟨by simp, by simp; exact c⟩⟩
      | some p =>
        obtain ⟨D', e⟩ := p
        exact readF_rg f e D' ((item_e hi).2.2 hD)
    · rw [if_neg c]
      exact ⟨hD, Or.inl rfl⟩
