/-! polynomials, and the game's determinants -/
abbrev Mo : Type := List Nat
abbrev Po : Type := List (List Nat × Int)
def evM (x : Nat → Int) : Mo → Int
  | [] => 1
  | i :: l => x i * evM x l
def ev (x : Nat → Int) : Po → Int
  | [] => 0
  | (m, c) :: p => c * evM x m + ev x p
def insM (i : Nat) : Mo → Mo
  | [] => [i]
  | j :: l => match Nat.ble i j with
    | true => i :: j :: l
    | false => j :: insM i l
theorem ev_insM (x : Nat → Int) (i : Nat) : ∀ m, evM x (insM i m) = x i * evM x m
  | [] => rfl
  | j :: l => by
    unfold insM
    cases Nat.ble i j with
    | true => rfl
    | false =>
      show x j * evM x (insM i l) = x i * (x j * evM x l)
      rw [ev_insM x i l, Int.mul_left_comm]
def mulM : Mo → Mo → Mo
  | [], b => b
  | i :: a, b => insM i (mulM a b)
theorem ev_mulM (x : Nat → Int) : ∀ a b, evM x (mulM a b) = evM x a * evM x b
  | [], b => by show evM x b = 1 * evM x b; rw [Int.one_mul]
  | i :: a, b => by
    show evM x (insM i (mulM a b)) = x i * evM x a * evM x b
    rw [ev_insM, ev_mulM x a b, Int.mul_assoc]
def eqM : Mo → Mo → Bool
  | [], [] => true
  | i :: a, j :: b => match Nat.beq i j with
    | true => eqM a b
    | false => false
  | _, _ => false
theorem eqM_eq : ∀ a b, eqM a b = true → a = b
  | [], [], _ => rfl
  | i :: a, j :: b, h => by
    unfold eqM at h
    cases hb : Nat.beq i j with
    | true =>
      rw [hb] at h
      rw [Nat.eq_of_beq_eq_true hb, eqM_eq a b h]
    | false => rw [hb] at h; exact absurd h (by simp)
  | [], _ :: _, h => absurd h (by simp [eqM])
  | _ :: _, [], h => absurd h (by simp [eqM])
def addT (m : Mo) (c : Int) : Po → Po
  | [] => [(m, c)]
  | (m', c') :: p => match eqM m m' with
    | true => (m', c + c') :: p
    | false => (m', c') :: addT m c p
theorem ev_addT (x : Nat → Int) (m : Mo) (c : Int) : ∀ p, ev x (addT m c p) = c * evM x m + ev x p
  | [] => rfl
  | (m', c') :: p => by
    unfold addT
    cases h : eqM m m' with
    | true =>
      show (c + c') * evM x m' + ev x p = c * evM x m + (c' * evM x m' + ev x p)
      rw [eqM_eq _ _ h, Int.add_mul, Int.add_assoc]
    | false =>
      show c' * evM x m' + ev x (addT m c p) = c * evM x m + (c' * evM x m' + ev x p)
      rw [ev_addT x m c p]
      omega
def addP : Po → Po → Po
  | [], q => q
  | (m, c) :: p, q => addT m c (addP p q)
theorem ev_addP (x : Nat → Int) : ∀ p q, ev x (addP p q) = ev x p + ev x q
  | [], q => by show ev x q = 0 + ev x q; omega
  | (m, c) :: p, q => by
    show ev x (addT m c (addP p q)) = c * evM x m + ev x p + ev x q
    rw [ev_addT, ev_addP x p q]
    omega
def mulT (m : Mo) (c : Int) : Po → Po
  | [] => []
  | (m', c') :: p => addT (mulM m m') (c * c') (mulT m c p)
theorem ev_mulT (x : Nat → Int) (m : Mo) (c : Int) : ∀ p, ev x (mulT m c p) = c * evM x m * ev x p
  | [] => by show (0 : Int) = c * evM x m * 0; rw [Int.mul_zero]
  | (m', c') :: p => by
    show ev x (addT (mulM m m') (c * c') (mulT m c p)) = c * evM x m * (c' * evM x m' + ev x p)
    rw [ev_addT, ev_mulT x m c p, ev_mulM, Int.mul_add]
    congr 1
    rw [Int.mul_assoc, Int.mul_left_comm c' (evM x m), ← Int.mul_assoc]
def mulP : Po → Po → Po
  | [], _ => []
  | (m, c) :: p, q => addP (mulT m c q) (mulP p q)
theorem ev_mulP (x : Nat → Int) : ∀ p q, ev x (mulP p q) = ev x p * ev x q
  | [], q => by show (0 : Int) = 0 * ev x q; rw [Int.zero_mul]
  | (m, c) :: p, q => by
    show ev x (addP (mulT m c q) (mulP p q)) = (c * evM x m + ev x p) * ev x q
    rw [ev_addP, ev_mulT, ev_mulP x p q, Int.add_mul]
def cstP (c : Int) : Po := [([], c)]
theorem ev_cst (x : Nat → Int) (c : Int) : ev x (cstP c) = c := by
  show c * 1 + 0 = c
  omega
def varP (i : Nat) : Po := [([i], 1)]
theorem ev_var (x : Nat → Int) (i : Nat) : ev x (varP i) = x i := by
  show 1 * (x i * 1) + 0 = x i
  omega
def negP (p : Po) : Po := mulP (cstP (-1)) p
theorem ev_neg (x : Nat → Int) (p : Po) : ev x (negP p) = - ev x p := by
  unfold negP
  rw [ev_mulP, ev_cst]
  omega
def subP (p q : Po) : Po := addP p (negP q)
theorem ev_sub (x : Nat → Int) (p q : Po) : ev x (subP p q) = ev x p - ev x q := by
  unfold subP
  rw [ev_addP, ev_neg]
  omega
def zerP : Po → Bool
  | [] => true
  | (_, c) :: p => match Int.decEq c 0 with
    | .isTrue _ => zerP p
    | .isFalse _ => false
theorem ev_zer (x : Nat → Int) : ∀ p, zerP p = true → ev x p = 0
  | [], _ => rfl
  | (m, c) :: p, h => by
    unfold zerP at h
    cases hc : Int.decEq c 0 with
    | isTrue e =>
      rw [hc] at h
      show c * evM x m + ev x p = 0
      rw [e, ev_zer x p h, Int.zero_mul]
      rfl
    | isFalse e => rw [hc] at h; exact absurd h (by simp)
theorem ev_eq (x : Nat → Int) {p q : Po} (h : zerP (subP p q) = true) : ev x p = ev x q := by
  have := ev_zer x _ h
  rw [ev_sub] at this
  omega
def smP : Nat → (Nat → Po) → Po
  | 0, _ => []
  | n + 1, f => addP (smP n f) (f n)
theorem ev_smP (x : Nat → Int) (f : Nat → Po) : ∀ n, ev x (smP n f) = sm n (fun i => ev x (f i))
  | 0 => rfl
  | n + 1 => by
    show ev x (addP (smP n f) (f n)) = sm n (fun i => ev x (f i)) + ev x (f n)
    rw [ev_addP, ev_smP x f n]
/-- the column that is the nth of those not taken -/
def cfO (t nth : Nat) : Nat → Nat → Nat → Option Nat
  | 0, _, _ => none
  | f + 1, c, s => match t.testBit c with
    | true => cfO t nth f (c + 1) s
    | false => match Nat.blt s nth with
      | true => cfO t nth f (c + 1) (s + 1)
      | false => some c
def cN (t nth : Nat) : Nat := (cfO t nth 8 0 0).getD 0
theorem cN_ok : ∀ t : Nat, t < 32 → ∀ nth : Nat, nth < 5 → pc 5 t + nth < 5 → (cfO t nth 8 0 0 = some (cN t nth) ∧ cN t nth < 5 ∧ (t ||| 2 ^ cN t nth) < 32 ∧ pc 5 (t ||| 2 ^ cN t nth) = pc 5 t + 1) := by decide +kernel
def tmS (n o : Nat) (cl : Nat → Int) : Nat → Nat × Nat × Int
  | 0 => (o, 0, 1)
  | r + 1 => ((tmS n o cl r).1 / (n - r), (tmS n o cl r).2.1 ||| 2 ^ cN (tmS n o cl r).2.1 ((tmS n o cl r).1 % (n - r)), (tmS n o cl r).2.2 * (cl (5 * r + cN (tmS n o cl r).2.1 ((tmS n o cl r).1 % (n - r))) * (if (tmS n o cl r).1 % (n - r) % 2 = 0 then 1 else -1)))
def fct : Nat → Nat
  | 0 => 1
  | n + 1 => fct n * (n + 1)
def detL (n : Nat) (cl : Nat → Int) : Int := sm (fct n) (fun o => (tmS n o cl n).2.2)
def tmP (n o : Nat) (cl : Nat → Po) : Nat → Nat × Nat × Po
  | 0 => (o, 0, cstP 1)
  | r + 1 => match tmP n o cl r with
    | (l, t, v) => (l / (n - r), t ||| 2 ^ cN t (l % (n - r)), mulP v (match (l % (n - r)) % 2 with
      | 0 => cl (5 * r + cN t (l % (n - r)))
      | _ => negP (cl (5 * r + cN t (l % (n - r))))))
def detP (n : Nat) (cl : Nat → Po) : Po := smP (fct n) (fun o => (tmP n o cl n).2.2)
theorem tm_ev (x : Nat → Int) (n o : Nat) (cl : Nat → Po) (cl' : Nat → Int) (h : ∀ i, ev x (cl i) = cl' i) : ∀ r, (tmP n o cl r).1 = (tmS n o cl' r).1 ∧ (tmP n o cl r).2.1 = (tmS n o cl' r).2.1 ∧ ev x (tmP n o cl r).2.2 = (tmS n o cl' r).2.2
  | 0 => ⟨rfl, rfl, ev_cst x 1⟩
  | r + 1 => by
    obtain ⟨a, b, c⟩ := tm_ev x n o cl cl' h r
    unfold tmP
    cases hq : tmP n o cl r with
    | mk l q =>
      obtain ⟨t, v⟩ := q
      rw [hq] at a b c
      have a : l = (tmS n o cl' r).1 := a
      have b : t = (tmS n o cl' r).2.1 := b
      have c : ev x v = (tmS n o cl' r).2.2 := c
      refine ⟨?_, ?_, ?_⟩
      · show l / (n - r) = (tmS n o cl' r).1 / (n - r)
        rw [a]
      · show t ||| 2 ^ cN t (l % (n - r)) = (tmS n o cl' r).2.1 ||| 2 ^ cN (tmS n o cl' r).2.1 ((tmS n o cl' r).1 % (n - r))
        rw [a, b]
      · show ev x (mulP v _) = (tmS n o cl' r).2.2 * (cl' (5 * r + cN (tmS n o cl' r).2.1 ((tmS n o cl' r).1 % (n - r))) * (if (tmS n o cl' r).1 % (n - r) % 2 = 0 then 1 else -1))
        rw [ev_mulP, c, ← a, ← b, ← h]
        congr 1
        by_cases e : l % (n - r) % 2 = 0
        · rw [e, if_pos rfl, Int.mul_one]
          rfl
        · have e1 : l % (n - r) % 2 = 1 := by omega
          rw [e1, if_neg (by omega)]
          show ev x (negP _) = _
          rw [ev_neg]
          omega
theorem det_ev (x : Nat → Int) (n : Nat) (cl : Nat → Po) (cl' : Nat → Int) (h : ∀ i, ev x (cl i) = cl' i) : ev x (detP n cl) = detL n cl' := by
  unfold detP detL
  rw [ev_smP]
  exact sm_congr (fun o _ => (tm_ev x n o cl cl' h n).2.2)
/-- the class's minors -/
def mnr (k : Nat) (R : Nat → Nat → Int) : Int := match k with
  | 0 => 1
  | 1 => R 0 0
  | 2 => R 0 0 * R 1 1 - R 0 1 * R 1 0
  | _ => R 0 0 * (R 1 1 * R 2 2 - R 1 2 * R 2 1) - R 0 1 * (R 1 0 * R 2 2 - R 1 2 * R 2 0) + R 0 2 * (R 1 0 * R 2 1 - R 1 1 * R 2 0)
def mnrP (k : Nat) (R : Nat → Nat → Po) : Po := match k with
  | 0 => cstP 1
  | 1 => R 0 0
  | 2 => subP (mulP (R 0 0) (R 1 1)) (mulP (R 0 1) (R 1 0))
  | _ => addP (subP (mulP (R 0 0) (subP (mulP (R 1 1) (R 2 2)) (mulP (R 1 2) (R 2 1)))) (mulP (R 0 1) (subP (mulP (R 1 0) (R 2 2)) (mulP (R 1 2) (R 2 0))))) (mulP (R 0 2) (subP (mulP (R 1 0) (R 2 1)) (mulP (R 1 1) (R 2 0))))
theorem ev_mnr (x : Nat → Int) (k : Nat) (R : Nat → Nat → Po) : ev x (mnrP k R) = mnr k (fun a b => ev x (R a b)) := by
  unfold mnrP mnr
  split
  · exact ev_cst x 1
  · rfl
  · rw [ev_sub, ev_mulP, ev_mulP]
  · rw [ev_addP, ev_sub, ev_mulP, ev_mulP, ev_mulP, ev_sub, ev_sub, ev_sub, ev_mulP, ev_mulP, ev_mulP, ev_mulP, ev_mulP, ev_mulP]
def skp (i l : Nat) : Nat := if l < i then l else l + 1
def cof (k : Nat) (A : Nat → Nat → Int) (i j : Nat) : Int := if (i + j) % 2 = 0 then mnr (k - 1) (fun l q => A (skp i l) (skp j q)) else - mnr (k - 1) (fun l q => A (skp i l) (skp j q))
def cofP (k : Nat) (A : Nat → Nat → Po) (i j : Nat) : Po := match (i + j) % 2 with
  | 0 => mnrP (k - 1) (fun l q => A (skp i l) (skp j q))
  | _ => negP (mnrP (k - 1) (fun l q => A (skp i l) (skp j q)))
theorem ev_cof (x : Nat → Int) (k : Nat) (A : Nat → Nat → Po) (i j : Nat) : ev x (cofP k A i j) = cof k (fun a b => ev x (A a b)) i j := by
  unfold cofP cof
  by_cases e : (i + j) % 2 = 0
  · rw [e, if_pos rfl]
    exact ev_mnr x _ _
  · have e1 : (i + j) % 2 = 1 := by omega
    rw [e1, if_neg (by omega)]
    show ev x (negP _) = _
    rw [ev_neg, ev_mnr]
def gkF (k : Nat) (A : Nat → Nat → Int) (i : Nat) : Int := sm k (fun j => cof k A i j)
def ckF (k : Nat) (A : Nat → Nat → Int) (j : Nat) : Int := sm k (fun i => cof k A i j)
def WkF (k : Nat) (A : Nat → Nat → Int) : Int := sm k (fun i => gkF k A i)
def dvF (k : Nat) (A : Nat → Nat → Int) : Int := sm k (fun j => ckF k A j * A 0 j)
def gkP (k : Nat) (A : Nat → Nat → Po) (i : Nat) : Po := smP k (fun j => cofP k A i j)
def ckP (k : Nat) (A : Nat → Nat → Po) (j : Nat) : Po := smP k (fun i => cofP k A i j)
def WkP (k : Nat) (A : Nat → Nat → Po) : Po := smP k (fun i => gkP k A i)
def dvP (k : Nat) (A : Nat → Nat → Po) : Po := smP k (fun j => mulP (ckP k A j) (A 0 j))
theorem ev_gk (x : Nat → Int) (k : Nat) (A : Nat → Nat → Po) (i : Nat) : ev x (gkP k A i) = gkF k (fun a b => ev x (A a b)) i := by
  unfold gkP gkF
  rw [ev_smP]
  exact sm_congr (fun j _ => ev_cof x k A i j)
theorem ev_ck (x : Nat → Int) (k : Nat) (A : Nat → Nat → Po) (j : Nat) : ev x (ckP k A j) = ckF k (fun a b => ev x (A a b)) j := by
  unfold ckP ckF
  rw [ev_smP]
  exact sm_congr (fun i _ => ev_cof x k A i j)
theorem ev_Wk (x : Nat → Int) (k : Nat) (A : Nat → Nat → Po) : ev x (WkP k A) = WkF k (fun a b => ev x (A a b)) := by
  unfold WkP WkF
  rw [ev_smP]
  exact sm_congr (fun i _ => ev_gk x k A i)
theorem ev_dv (x : Nat → Int) (k : Nat) (A : Nat → Nat → Po) : ev x (dvP k A) = dvF k (fun a b => ev x (A a b)) := by
  unfold dvP dvF
  rw [ev_smP]
  exact sm_congr (fun j _ => by show ev x (mulP _ _) = _; rw [ev_mulP, ev_ck])
/-- the model's cells: side, number, the column instead (5: none) -/
def clF (sd k ins : Nat) (A : Nat → Nat → Int) (i : Nat) : Int := if i % 5 = ins then (if i / 5 = k then 1 else 0) else if i / 5 = k then (if i % 5 < k then 1 else 0) else if i % 5 = k then -1 else if sd = 0 then A (i % 5) (i / 5) else A (i / 5) (i % 5)
def clP (sd k ins : Nat) (i : Nat) : Po := match Nat.beq (i % 5) ins with
  | true => (match Nat.beq (i / 5) k with
    | true => cstP 1
    | false => [])
  | false => (match Nat.beq (i / 5) k with
    | true => (match Nat.blt (i % 5) k with
      | true => cstP 1
      | false => [])
    | false => (match Nat.beq (i % 5) k with
      | true => cstP (-1)
      | false => (match sd with
        | 0 => varP (4 * (i % 5) + i / 5)
        | _ => varP (4 * (i / 5) + i % 5))))
def AP (i j : Nat) : Po := varP (4 * i + j)
theorem pid1 : ∀ k : Nat, k < 5 → 1 ≤ k → zerP (subP (detP (k + 1) (clP 0 k 5)) (WkP k AP)) = true ∧ zerP (subP (detP (k + 1) (clP 1 k 5)) (WkP k AP)) = true ∧ zerP (subP (detP (k + 1) (clP 0 k k)) (dvP k AP)) = true ∧ ∀ i : Nat, i < k → zerP (subP (detP (k + 1) (clP 0 k i)) (gkP k AP i)) = true ∧ zerP (subP (detP (k + 1) (clP 1 k i)) (ckP k AP i)) = true := by decide +kernel
theorem ev_cl (A : Nat → Nat → Int) (sd k ins : Nat) (hk : k < 5) (i : Nat) (hi : i < 25) : ev (fun v => A (v / 4) (v % 4)) (clP sd k ins i) = clF sd k ins (fun a b => A ((4 * a + b) / 4) ((4 * a + b) % 4)) i := by
  unfold clP clF
  cases h1 : Nat.beq (i % 5) ins with
  | true =>
    rw [if_pos (Nat.eq_of_beq_eq_true h1)]
    cases h2 : Nat.beq (i / 5) k with
    | true => rw [if_pos (Nat.eq_of_beq_eq_true h2)]; exact ev_cst _ _
    | false => rw [if_neg (Nat.ne_of_beq_eq_false h2)]; rfl
  | false =>
    rw [if_neg (Nat.ne_of_beq_eq_false h1)]
    cases h2 : Nat.beq (i / 5) k with
    | true =>
      rw [if_pos (Nat.eq_of_beq_eq_true h2)]
      cases h3 : Nat.blt (i % 5) k with
      | true => rw [if_pos (by simpa using h3)]; exact ev_cst _ _
      | false => rw [if_neg (fun hlt => by rw [show Nat.blt (i % 5) k = true by simpa using hlt] at h3; exact absurd h3 (by simp))]; rfl
    | false =>
      rw [if_neg (Nat.ne_of_beq_eq_false h2)]
      cases h3 : Nat.beq (i % 5) k with
      | true => rw [if_pos (Nat.eq_of_beq_eq_true h3)]; exact ev_cst _ _
      | false =>
        rw [if_neg (Nat.ne_of_beq_eq_false h3)]
        cases sd with
        | zero => rw [if_pos rfl]; exact ev_var _ _
        | succ q => rw [if_neg (by omega)]; exact ev_var _ _
theorem tmS_congr {n o : Nat} {cl cl' : Nat → Int} (hn : n ≤ 5) (ho : o < fct n) : ∀ r, r ≤ n → (∀ i, i < 25 → cl i = cl' i) → tmS n o cl r = tmS n o cl' r ∧ (tmS n o cl r).2.1 < 32 ∧ pc 5 (tmS n o cl r).2.1 = r
  | 0, _, _ => ⟨rfl, by show (0 : Nat) < 32; omega, pc_zero 5⟩
  | r + 1, hr, h => by
    obtain ⟨a, b, c⟩ := tmS_congr hn ho r (by omega) h
    have hm : (tmS n o cl r).1 % (n - r) < n - r := Nat.mod_lt _ (by omega)
    have ok := cN_ok (tmS n o cl r).2.1 b ((tmS n o cl r).1 % (n - r)) (by omega) (by omega)
    refine ⟨?_, ok.2.2.1, by rw [show (tmS n o cl (r + 1)).2.1 = (tmS n o cl r).2.1 ||| 2 ^ cN (tmS n o cl r).2.1 ((tmS n o cl r).1 % (n - r)) from rfl, ok.2.2.2, c]⟩
    show ((tmS n o cl r).1 / (n - r), (tmS n o cl r).2.1 ||| 2 ^ cN (tmS n o cl r).2.1 ((tmS n o cl r).1 % (n - r)), (tmS n o cl r).2.2 * (cl (5 * r + cN (tmS n o cl r).2.1 ((tmS n o cl r).1 % (n - r))) * (if (tmS n o cl r).1 % (n - r) % 2 = 0 then 1 else -1))) = _
    rw [h _ (by omega), a]
    rfl
theorem detL_congr {n : Nat} {cl cl' : Nat → Int} (hn : n ≤ 5) (h : ∀ i, i < 25 → cl i = cl' i) : detL n cl = detL n cl' := by
  unfold detL
  exact sm_congr (fun o ho => by rw [(tmS_congr hn ho n (Nat.le_refl n) h).1])
/-- entries outside a square of four are not looked at -/
def sq4 (A : Nat → Nat → Int) (i j : Nat) : Int := A ((4 * i + j) / 4) ((4 * i + j) % 4)
theorem sq4_eq (A : Nat → Nat → Int) {i j : Nat} (hj : j < 4) : sq4 A i j = A i j := by
  unfold sq4
  rw [show (4 * i + j) / 4 = i by omega, show (4 * i + j) % 4 = j by omega]
theorem det_cl (A : Nat → Nat → Int) (sd k ins : Nat) (hk : k < 5) : ev (fun v => A (v / 4) (v % 4)) (detP (k + 1) (clP sd k ins)) = detL (k + 1) (clF sd k ins (sq4 A)) := by
  rw [det_ev _ (k + 1) (clP sd k ins) (fun i => ev (fun v => A (v / 4) (v % 4)) (clP sd k ins i)) (fun _ => rfl)]
  exact detL_congr (by omega) (fun i hi => ev_cl A sd k ins hk i hi)
theorem evA (A : Nat → Nat → Int) : (fun a b => ev (fun v => A (v / 4) (v % 4)) (AP a b)) = sq4 A := by
  funext a b
  unfold AP
  rw [ev_var]
  rfl
theorem did (A : Nat → Nat → Int) (k : Nat) (h1 : 1 ≤ k) (h4 : k < 5) : detL (k + 1) (clF 0 k 5 (sq4 A)) = WkF k (sq4 A) ∧ detL (k + 1) (clF 1 k 5 (sq4 A)) = WkF k (sq4 A) ∧ detL (k + 1) (clF 0 k k (sq4 A)) = dvF k (sq4 A) ∧ ∀ i : Nat, i < k → detL (k + 1) (clF 0 k i (sq4 A)) = gkF k (sq4 A) i ∧ detL (k + 1) (clF 1 k i (sq4 A)) = ckF k (sq4 A) i := by
  obtain ⟨a, b, c, d⟩ := pid1 k h4 h1
  have ew := ev_Wk (fun v => A (v / 4) (v % 4)) k AP
  have ed := ev_dv (fun v => A (v / 4) (v % 4)) k AP
  rw [evA] at ew ed
  refine ⟨?_, ?_, ?_, fun i hi => ⟨?_, ?_⟩⟩
  · rw [← det_cl A 0 k 5 h4, ev_eq _ a, ew]
  · rw [← det_cl A 1 k 5 h4, ev_eq _ b, ew]
  · rw [← det_cl A 0 k k h4, ev_eq _ c, ed]
  · have eg := ev_gk (fun v => A (v / 4) (v % 4)) k AP i
    rw [evA] at eg
    rw [← det_cl A 0 k i h4, ev_eq _ (d i hi).1, eg]
  · have eg := ev_ck (fun v => A (v / 4) (v % 4)) k AP i
    rw [evA] at eg
    rw [← det_cl A 1 k i h4, ev_eq _ (d i hi).2, eg]
