/-! AN ABSTRACT MACHINE for the instructions that the claim's methods have: values are whole numbers (an int or a long stands for its class modulo 2^32, 2^64) or the number of a cell; a heap is a list of shapes and a function of whole numbers. -/
abbrev bg_V : Type := Int ⊕ (Int ⊕ Option Nat)
abbrev bg_C : Type := Nat × (Nat × List (Option Nat))
abbrev bg_G : Type := Nat → Int → Int
abbrev bg_H : Type := List bg_C × bg_G
abbrev bg_L : Type := List (Option bg_V)
abbrev bg_F : Type := Nat × bg_L × List bg_V × bg_H × (Nat × Nat)
abbrev bg_I : Type := Instr × Nat × (Nat × Nat × Nat × Int × List (Int × Nat))
abbrev bg_K : Type := List (Nat × List (Nat × bg_I))
abbrev bg_R : Type := Option bg_V → bg_H → Prop
abbrev bg_M : Type := MethodName × ByteArray × Nat × Option FieldType × bg_K × (Nat × Nat) × Nat
def bg_nth {α : Type} : List α → Nat → Option α
  | [], _ => none
  | a :: _, 0 => some a
  | _ :: l, n + 1 => bg_nth l n
theorem bg_nth_eq {α : Type} : ∀ (l : List α) (n : Nat), bg_nth l n = l[n]?
  | [], _ => by simp [bg_nth]
  | a :: l, 0 => by simp [bg_nth]
  | a :: l, n + 1 => by simp [bg_nth, bg_nth_eq l n]
def bg_w (x : Int) : Int := (Int32.ofInt x).toInt
def bg_W (x : Int) : Int := (Int64.ofInt x).toInt
def bg_and (x y : Int) : Int := (Int32.ofInt x &&& Int32.ofInt y).toInt
def bg_or (x y : Int) : Int := (Int32.ofInt x ||| Int32.ofInt y).toInt
def bg_xor (x y : Int) : Int := (Int32.ofInt x ^^^ Int32.ofInt y).toInt
def bg_shl (x y : Int) : Int := (Int32.ofInt x <<< (Int32.ofInt y &&& 31)).toInt
def bg_shr (x y : Int) : Int := (Int32.ofInt x >>> (Int32.ofInt y &&& 31)).toInt
def bg_ushr (x y : Int) : Int := ((Int32.ofInt x).toUInt32 >>> ((Int32.ofInt y).toUInt32 &&& Int32.toUInt32 31)).toInt32.toInt
def bg_div (x y : Int) : Int := (Int32.ofInt x / Int32.ofInt y).toInt
def bg_rem (x y : Int) : Int := (Int32.ofInt x - Int32.ofInt x / Int32.ofInt y * Int32.ofInt y).toInt
def bg_And (x y : Int) : Int := (Int64.ofInt x &&& Int64.ofInt y).toInt
def bg_Or (x y : Int) : Int := (Int64.ofInt x ||| Int64.ofInt y).toInt
def bg_Shl (x y : Int) : Int := (Int64.ofInt x <<< ((Int32.ofInt y).toInt64 &&& 63)).toInt
def bg_Shr (x y : Int) : Int := (Int64.ofInt x >>> ((Int32.ofInt y).toInt64 &&& 63)).toInt
def bg_Ushr (x y : Int) : Int := ((Int64.ofInt x).toUInt64 >>> ((Int32.ofInt y).toInt64.toUInt64 &&& Int64.toUInt64 63)).toInt64.toInt
def bg_Div (x y : Int) : Int := (Int64.ofInt x / Int64.ofInt y).toInt
def bg_Rem (x y : Int) : Int := (Int64.ofInt x - Int64.ofInt x / Int64.ofInt y * Int64.ofInt y).toInt
def bg_Cmp (x y : Int) : Int := if bg_W y < bg_W x then 1 else if bg_W x = bg_W y then 0 else -1
def bg_clr : Option bg_V → Option bg_V
  | some (.inr (.inl _)) => none
  | x => x
def bg_sto : bg_L → Nat → bg_V → bg_L
  | [], _, _ => []
  | _ :: l, 0, v => some v :: l
  | a :: l, 1, v => bg_clr a :: bg_sto l 0 v
  | a :: l, n + 2, v => a :: bg_sto l (n + 1) v
def bg_sto2 : bg_L → Nat → bg_V → bg_L
  | _ :: _ :: l, 0, v => some v :: none :: l
  | a :: l, 1, v => bg_clr a :: bg_sto2 l 0 v
  | a :: l, n + 2, v => a :: bg_sto2 l (n + 1) v
  | _, _, _ => []
def bg_up (h : bg_G) (k : Nat) (i v : Int) : bg_G := fun k' j => if k' = k then (if j = i then v else h k' j) else h k' j
def bg_zero (h : bg_G) (n m : Nat) : bg_G := fun k j => if n ≤ k ∧ k < n + m then 0 else h k j
def bg_cpy (h : bg_G) (ks kd : Nat) (sp dp n : Int) : bg_G := fun k j => if k = kd then (if dp ≤ j ∧ j < dp + n then h ks (sp + (j - dp)) else h k j) else h k j
def bg_cats : List bg_V → Nat
  | [] => 0
  | .inr (.inl _) :: l => 2 + bg_cats l
  | _ :: l => 1 + bg_cats l
def bg_pop : Nat → List bg_V → List bg_V → Option (List bg_V × List bg_V)
  | 0, st, acc => some (acc, st)
  | n + 1, v :: st, acc => bg_pop n st (v :: acc)
  | _ + 1, [], _ => none
def bg_push : Option bg_V → List bg_V → List bg_V
  | some v, st => v :: st
  | none, st => st
def bg_ldi (ls : bg_L) (i : Nat) (f : Int → Prop) : Prop := match bg_nth ls i with
  | some (some (.inl x)) => f x
  | _ => False
def bg_ldl (ls : bg_L) (i : Nat) (f : Int → Prop) : Prop := match bg_nth ls i with
  | some (some (.inr (.inl x))) => f x
  | _ => False
def bg_lda (ls : bg_L) (i : Nat) (f : Option Nat → Prop) : Prop := match bg_nth ls i with
  | some (some (.inr (.inr r))) => f r
  | _ => False
def bg_p1 (st : List bg_V) (f : Int → List bg_V → Prop) : Prop := match st with
  | .inl x :: r => f x r
  | _ => False
def bg_p2 (st : List bg_V) (f : Int → Int → List bg_V → Prop) : Prop := match st with
  | .inl y :: .inl x :: r => f x y r
  | _ => False
def bg_q1 (st : List bg_V) (f : Int → List bg_V → Prop) : Prop := match st with
  | .inr (.inl x) :: r => f x r
  | _ => False
def bg_q2 (st : List bg_V) (f : Int → Int → List bg_V → Prop) : Prop := match st with
  | .inr (.inl y) :: .inr (.inl x) :: r => f x y r
  | _ => False
def bg_pq (st : List bg_V) (f : Int → Int → List bg_V → Prop) : Prop := match st with
  | .inl y :: .inr (.inl x) :: r => f x y r
  | _ => False
def bg_r1 (st : List bg_V) (f : Nat → List bg_V → Prop) : Prop := match st with
  | .inr (.inr (some k)) :: r => f k r
  | _ => False
def bg_pr (st : List bg_V) (f : Int → Nat → List bg_V → Prop) : Prop := match st with
  | .inl i :: .inr (.inr (some k)) :: r => f i k r
  | _ => False
def bg_at (H : bg_H) (k : Nat) (f : Nat → Nat → List (Option Nat) → Prop) : Prop := match bg_nth H.1 k with
  | some (c, n, rs) => f c n rs
  | none => False
def bg_if (b : Bool) (f : Prop) : Prop := match b with
  | true => f
  | false => False
def bg_sw (v : Int) (d : Nat) (K : Nat → Prop) : List (Int × Nat) → Prop
  | [] => K d
  | (c, t) :: r => (v = c → K t) ∧ (v ≠ c → bg_sw v d K r)
/-- what the constructors of the kinds 0 to 9 make: cells, slots -/
def bg_mc (k : Nat) : Nat × Nat := match bg_nth [(2, 76), (11, 40), (15, 102), (2, 8), (6, 12902), (4, 16), (2, 407), (4, 3607), (112, 17574), (24, 12320)] k with
  | some p => p
  | none => (0, 0)
def bg_call (C : Nat → List bg_V → bg_H → bg_R → Prop) (mx : Nat × Nat) (k : Nat) (as : List bg_V) (nx : Nat) (ls : bg_L) (rest : List bg_V) (H : bg_H) (cn : Nat × Nat) (K : bg_F → Prop) : Prop :=
  bg_if (Nat.ble (bg_cats rest) 8 && Nat.ble (cn.1 + (bg_mc k).1) mx.1 && Nat.ble (cn.2 + (bg_mc k).2) mx.2) (C k as H (fun r H' => K (nx, ls, bg_push r rest, H', (cn.1 + (bg_mc k).1, cn.2 + (bg_mc k).2))))
set_option maxHeartbeats 1000000 in
/-- what one instruction needs, so that K holds behind it (Rt at a return) -/
def bg_wp (C : Nat → List bg_V → bg_H → bg_R → Prop) (mx : Nat × Nat) (q : bg_I) (ls : bg_L) (st : List bg_V) (H : bg_H) (cn : Nat × Nat) (K : bg_F → Prop) (Rt : bg_R) : Prop :=
  match q with
  | (.iconst _, nx, (_, _, _, d, _)) => K (nx, ls, .inl d :: st, H, cn)
  | (.bipush _, nx, (_, _, _, d, _)) => K (nx, ls, .inl d :: st, H, cn)
  | (.sipush _, nx, (_, _, _, d, _)) => K (nx, ls, .inl d :: st, H, cn)
  | (.ldc _, nx, (_, _, _, d, _)) => K (nx, ls, .inl d :: st, H, cn)
  | (.ldc_w _, nx, (_, _, _, d, _)) => K (nx, ls, .inl d :: st, H, cn)
  | (.lconst _, nx, (_, _, _, d, _)) => K (nx, ls, .inr (.inl d) :: st, H, cn)
  | (.ldc2_w _, nx, (_, _, _, d, _)) => K (nx, ls, .inr (.inl d) :: st, H, cn)
  | (.iload _, nx, (a, _)) => bg_ldi ls a fun x => K (nx, ls, .inl x :: st, H, cn)
  | (.iload_n _, nx, (a, _)) => bg_ldi ls a fun x => K (nx, ls, .inl x :: st, H, cn)
  | (.lload _, nx, (a, _)) => bg_ldl ls a fun x => K (nx, ls, .inr (.inl x) :: st, H, cn)
  | (.lload_n _, nx, (a, _)) => bg_ldl ls a fun x => K (nx, ls, .inr (.inl x) :: st, H, cn)
  | (.aload _, nx, (a, _)) => bg_lda ls a fun r => K (nx, ls, .inr (.inr r) :: st, H, cn)
  | (.aload_n _, nx, (a, _)) => bg_lda ls a fun r => K (nx, ls, .inr (.inr r) :: st, H, cn)
  | (.istore _, nx, (a, _)) => bg_p1 st fun x r => K (nx, bg_sto ls a (.inl x), r, H, cn)
  | (.istore_n _, nx, (a, _)) => bg_p1 st fun x r => K (nx, bg_sto ls a (.inl x), r, H, cn)
  | (.lstore _, nx, (a, _)) => bg_q1 st fun x r => K (nx, bg_sto2 ls a (.inr (.inl x)), r, H, cn)
  | (.lstore_n _, nx, (a, _)) => bg_q1 st fun x r => K (nx, bg_sto2 ls a (.inr (.inl x)), r, H, cn)
  | (.astore_n _, nx, (a, _)) => bg_r1 st fun k r => K (nx, bg_sto ls a (.inr (.inr (some k))), r, H, cn)
  | (.iinc _ _, nx, (a, _, _, d, _)) => bg_ldi ls a fun x => K (nx, bg_sto ls a (.inl (x + d)), st, H, cn)
  | (.iadd, nx, _) => bg_p2 st fun x y r => K (nx, ls, .inl (x + y) :: r, H, cn)
  | (.isub, nx, _) => bg_p2 st fun x y r => K (nx, ls, .inl (x - y) :: r, H, cn)
  | (.imul, nx, _) => bg_p2 st fun x y r => K (nx, ls, .inl (x * y) :: r, H, cn)
  | (.ineg, nx, _) => bg_p1 st fun x r => K (nx, ls, .inl (-x) :: r, H, cn)
  | (.iand, nx, _) => bg_p2 st fun x y r => K (nx, ls, .inl (bg_and x y) :: r, H, cn)
  | (.ior, nx, _) => bg_p2 st fun x y r => K (nx, ls, .inl (bg_or x y) :: r, H, cn)
  | (.ixor, nx, _) => bg_p2 st fun x y r => K (nx, ls, .inl (bg_xor x y) :: r, H, cn)
  | (.ishl, nx, _) => bg_p2 st fun x y r => K (nx, ls, .inl (bg_shl x y) :: r, H, cn)
  | (.ishr, nx, _) => bg_p2 st fun x y r => K (nx, ls, .inl (bg_shr x y) :: r, H, cn)
  | (.iushr, nx, _) => bg_p2 st fun x y r => K (nx, ls, .inl (bg_ushr x y) :: r, H, cn)
  | (.idiv, nx, _) => bg_p2 st fun x y r => bg_w y ≠ 0 ∧ K (nx, ls, .inl (bg_div x y) :: r, H, cn)
  | (.irem, nx, _) => bg_p2 st fun x y r => bg_w y ≠ 0 ∧ K (nx, ls, .inl (bg_rem x y) :: r, H, cn)
  | (.ladd, nx, _) => bg_q2 st fun x y r => K (nx, ls, .inr (.inl (x + y)) :: r, H, cn)
  | (.lsub, nx, _) => bg_q2 st fun x y r => K (nx, ls, .inr (.inl (x - y)) :: r, H, cn)
  | (.lmul, nx, _) => bg_q2 st fun x y r => K (nx, ls, .inr (.inl (x * y)) :: r, H, cn)
  | (.lneg, nx, _) => bg_q1 st fun x r => K (nx, ls, .inr (.inl (-x)) :: r, H, cn)
  | (.land, nx, _) => bg_q2 st fun x y r => K (nx, ls, .inr (.inl (bg_And x y)) :: r, H, cn)
  | (.lor, nx, _) => bg_q2 st fun x y r => K (nx, ls, .inr (.inl (bg_Or x y)) :: r, H, cn)
  | (.lshl, nx, _) => bg_pq st fun x y r => K (nx, ls, .inr (.inl (bg_Shl x y)) :: r, H, cn)
  | (.lshr, nx, _) => bg_pq st fun x y r => K (nx, ls, .inr (.inl (bg_Shr x y)) :: r, H, cn)
  | (.lushr, nx, _) => bg_pq st fun x y r => K (nx, ls, .inr (.inl (bg_Ushr x y)) :: r, H, cn)
  | (.ldiv, nx, _) => bg_q2 st fun x y r => bg_W y ≠ 0 ∧ K (nx, ls, .inr (.inl (bg_Div x y)) :: r, H, cn)
  | (.lrem, nx, _) => bg_q2 st fun x y r => bg_W y ≠ 0 ∧ K (nx, ls, .inr (.inl (bg_Rem x y)) :: r, H, cn)
  | (.lcmp, nx, _) => bg_q2 st fun x y r => K (nx, ls, .inl (bg_Cmp x y) :: r, H, cn)
  | (.i2l, nx, _) => bg_p1 st fun x r => K (nx, ls, .inr (.inl (bg_w x)) :: r, H, cn)
  | (.l2i, nx, _) => bg_q1 st fun x r => K (nx, ls, .inl x :: r, H, cn)
  | (.dup, nx, _) => (match st with
    | .inl x :: r => K (nx, ls, .inl x :: .inl x :: r, H, cn)
    | .inr (.inr x) :: r => K (nx, ls, .inr (.inr x) :: .inr (.inr x) :: r, H, cn)
    | _ => False)
  | (.dup2, nx, _) => (match st with
    | .inl i :: .inr (.inr x) :: r => K (nx, ls, .inl i :: .inr (.inr x) :: .inl i :: .inr (.inr x) :: r, H, cn)
    | .inr (.inl x) :: r => K (nx, ls, .inr (.inl x) :: .inr (.inl x) :: r, H, cn)
    | _ => False)
  | (.goto _, _, (a, _)) => K (a, ls, st, H, cn)
  | (.ifCond .eq _, nx, (a, _)) => bg_p1 st fun x r => (bg_w x = 0 → K (a, ls, r, H, cn)) ∧ (¬ bg_w x = 0 → K (nx, ls, r, H, cn))
  | (.ifCond .ne _, nx, (a, _)) => bg_p1 st fun x r => (¬ bg_w x = 0 → K (a, ls, r, H, cn)) ∧ (bg_w x = 0 → K (nx, ls, r, H, cn))
  | (.ifCond .lt _, nx, (a, _)) => bg_p1 st fun x r => (bg_w x < 0 → K (a, ls, r, H, cn)) ∧ (¬ bg_w x < 0 → K (nx, ls, r, H, cn))
  | (.ifCond .ge _, nx, (a, _)) => bg_p1 st fun x r => (¬ bg_w x < 0 → K (a, ls, r, H, cn)) ∧ (bg_w x < 0 → K (nx, ls, r, H, cn))
  | (.ifCond .gt _, nx, (a, _)) => bg_p1 st fun x r => (0 < bg_w x → K (a, ls, r, H, cn)) ∧ (¬ 0 < bg_w x → K (nx, ls, r, H, cn))
  | (.ifCond .le _, nx, (a, _)) => bg_p1 st fun x r => (¬ 0 < bg_w x → K (a, ls, r, H, cn)) ∧ (0 < bg_w x → K (nx, ls, r, H, cn))
  | (.if_icmp .eq _, nx, (a, _)) => bg_p2 st fun x y r => (bg_w x = bg_w y → K (a, ls, r, H, cn)) ∧ (¬ bg_w x = bg_w y → K (nx, ls, r, H, cn))
  | (.if_icmp .ne _, nx, (a, _)) => bg_p2 st fun x y r => (¬ bg_w x = bg_w y → K (a, ls, r, H, cn)) ∧ (bg_w x = bg_w y → K (nx, ls, r, H, cn))
  | (.if_icmp .lt _, nx, (a, _)) => bg_p2 st fun x y r => (bg_w x < bg_w y → K (a, ls, r, H, cn)) ∧ (¬ bg_w x < bg_w y → K (nx, ls, r, H, cn))
  | (.if_icmp .ge _, nx, (a, _)) => bg_p2 st fun x y r => (¬ bg_w x < bg_w y → K (a, ls, r, H, cn)) ∧ (bg_w x < bg_w y → K (nx, ls, r, H, cn))
  | (.if_icmp .gt _, nx, (a, _)) => bg_p2 st fun x y r => (bg_w y < bg_w x → K (a, ls, r, H, cn)) ∧ (¬ bg_w y < bg_w x → K (nx, ls, r, H, cn))
  | (.if_icmp .le _, nx, (a, _)) => bg_p2 st fun x y r => (¬ bg_w y < bg_w x → K (a, ls, r, H, cn)) ∧ (bg_w y < bg_w x → K (nx, ls, r, H, cn))
  | (.tableswitch _ _ _ _, _, (a, _, _, _, ps)) => bg_p1 st fun x r => bg_sw (bg_w x) a (fun t => K (t, ls, r, H, cn)) ps
  | (.lookupswitch _ _, _, (a, _, _, _, ps)) => bg_p1 st fun x r => bg_sw (bg_w x) a (fun t => K (t, ls, r, H, cn)) ps
  | (.getstatic _, nx, _) => K (nx, ls, .inr (.inr (some 1)) :: st, H, cn)
  | (.getfield _, nx, (a, b, t, _)) => bg_r1 st fun k r => bg_at H k fun c _ rs => bg_if (Nat.beq c a) (match t with
    | 0 => K (nx, ls, .inl (H.2 k b) :: r, H, cn)
    | 1 => K (nx, ls, .inr (.inl (H.2 k b)) :: r, H, cn)
    | _ => (match bg_nth rs b with
      | some o => K (nx, ls, .inr (.inr o) :: r, H, cn)
      | none => False))
  | (.putfield _, nx, (a, b, t, _)) => (match st with
    | .inl x :: .inr (.inr (some k)) :: r => bg_at H k fun c _ _ => bg_if (Nat.beq c a) (match t with
      | 0 => K (nx, ls, r, (H.1, bg_up H.2 k b x), cn)
      | 3 => (x = 0 ∨ x = 1) ∧ K (nx, ls, r, (H.1, bg_up H.2 k b x), cn)
      | _ => False)
    | .inr (.inl x) :: .inr (.inr (some k)) :: r => bg_at H k fun c _ _ => bg_if (Nat.beq c a && Nat.beq t 1) (K (nx, ls, r, (H.1, bg_up H.2 k b x), cn))
    | .inr (.inr o) :: .inr (.inr (some k)) :: r => bg_at H k fun c n rs => bg_if (Nat.beq c a && Nat.beq t 2 && Nat.blt b rs.length) (K (nx, ls, r, (H.1.set k (c, n, rs.set b o), H.2), cn))
    | _ => False)
  | (.arraylength, nx, _) => bg_r1 st fun k r => bg_at H k fun c n _ => bg_if (Nat.ble 10 c) (K (nx, ls, .inl (n : Int) :: r, H, cn))
  | (.iaload, nx, _) => bg_pr st fun i k r => bg_at H k fun c n _ => bg_if (Nat.beq c 10 || Nat.beq c 16) ((0 ≤ bg_w i ∧ bg_w i < n) ∧ K (nx, ls, .inl (H.2 k (bg_w i)) :: r, H, cn))
  | (.laload, nx, _) => bg_pr st fun i k r => bg_at H k fun c n _ => bg_if (Nat.beq c 11) ((0 ≤ bg_w i ∧ bg_w i < n) ∧ K (nx, ls, .inr (.inl (H.2 k (bg_w i))) :: r, H, cn))
  | (.aaload, nx, _) => bg_pr st fun i k r => bg_at H k fun c n rs => bg_if (Nat.ble 12 c && Nat.ble c 15) ((0 ≤ bg_w i ∧ bg_w i < n) ∧ (match bg_nth rs (bg_w i).toNat with
    | some o => K (nx, ls, .inr (.inr o) :: r, H, cn)
    | none => False))
  | (.iastore, nx, _) => (match st with
    | .inl x :: .inl i :: .inr (.inr (some k)) :: r => bg_at H k fun c n _ => bg_if (Nat.beq c 10) ((0 ≤ bg_w i ∧ bg_w i < n) ∧ K (nx, ls, r, (H.1, bg_up H.2 k (bg_w i) x), cn))
    | _ => False)
  | (.lastore, nx, _) => (match st with
    | .inr (.inl x) :: .inl i :: .inr (.inr (some k)) :: r => bg_at H k fun c n _ => bg_if (Nat.beq c 11) ((0 ≤ bg_w i ∧ bg_w i < n) ∧ K (nx, ls, r, (H.1, bg_up H.2 k (bg_w i) x), cn))
    | _ => False)
  | (.aastore, nx, _) => (match st with
    | .inr (.inr (some v)) :: .inl i :: .inr (.inr (some k)) :: r => bg_at H k fun c n rs => bg_at H v fun cv _ _ => bg_if ((Nat.beq c 12 && Nat.beq cv 2) || (Nat.beq c 13 && Nat.beq cv 3)) ((0 ≤ bg_w i ∧ bg_w i < n) ∧ K (nx, ls, r, (H.1.set k (c, n, rs.set (bg_w i).toNat (some v)), H.2), cn))
    | _ => False)
  | (.new _, nx, (a, b, _)) => bg_if (Nat.ble (cn.1 + 1) mx.1 && Nat.ble (cn.2 + b) mx.2) (K (nx, ls, .inr (.inr (some H.1.length)) :: st, (H.1 ++ [(a, b, List.replicate b none)], bg_zero H.2 H.1.length 1), (cn.1 + 1, cn.2 + b)))
  | (.newarray _, nx, (a, b, _)) => bg_p1 st fun x r => bg_if (Nat.ble (cn.1 + 1) mx.1 && Nat.ble (cn.2 + b) mx.2) (x = b ∧ K (nx, ls, .inr (.inr (some H.1.length)) :: r, (H.1 ++ [(a, b, [])], bg_zero H.2 H.1.length 1), (cn.1 + 1, cn.2 + b)))
  | (.anewarray _, nx, (a, b, _)) => bg_p1 st fun x r => bg_if (Nat.ble (cn.1 + 1) mx.1 && Nat.ble (cn.2 + b) mx.2) (x = b ∧ K (nx, ls, .inr (.inr (some H.1.length)) :: r, (H.1 ++ [(a, b, List.replicate b none)], bg_zero H.2 H.1.length 1), (cn.1 + 1, cn.2 + b)))
  | (.multianewarray _ _, nx, (a, b, e, _)) => bg_p2 st fun x y r => bg_if (Nat.ble (cn.1 + 1 + b) mx.1 && Nat.ble (cn.2 + b + b * e) mx.2) ((x = b ∧ y = e) ∧ K (nx, ls, .inr (.inr (some H.1.length)) :: r, (H.1 ++ (a, b, (List.range b).map (fun i => some (H.1.length + 1 + i))) :: List.replicate b (a - 4, e, []), bg_zero H.2 H.1.length (1 + b)), (cn.1 + 1 + b, cn.2 + b + b * e)))
  | (.invokevirtual _, nx, (a, b, t, _)) => (match bg_pop (b + 1) st [] with
    | some (.inr (.inr (some k)) :: as, rest) => bg_at H k fun c _ _ => bg_if (Nat.beq c t) (bg_call C mx a (.inr (.inr (some k)) :: as) nx ls rest H cn K)
    | _ => False)
  | (.invokestatic _, nx, (a, b, t, _)) => (match t with
    | 1 => (match st with
      | .inl n :: .inl dp :: .inr (.inr (some kd)) :: .inl sp :: .inr (.inr (some ks)) :: r => bg_at H ks fun c0 n0 _ => bg_at H kd fun c1 n1 _ => bg_if (Nat.beq c0 10 && Nat.beq c1 10 && Nat.ble (bg_cats r) 8) ((0 ≤ bg_w sp ∧ 0 ≤ bg_w dp ∧ 0 ≤ bg_w n ∧ bg_w sp + bg_w n ≤ n0 ∧ bg_w dp + bg_w n ≤ n1) ∧ K (nx, ls, r, (H.1, bg_cpy H.2 ks kd (bg_w sp) (bg_w dp) (bg_w n)), cn))
      | _ => False)
    | 2 => bg_p2 st fun x y r => bg_if (Nat.ble (bg_cats r) 8 && Nat.ble cn.1 mx.1 && Nat.ble cn.2 mx.2) (K (nx, ls, .inl (if bg_w x < bg_w y then y else x) :: r, H, cn))
    | 3 => bg_p2 st fun x y r => bg_if (Nat.ble (bg_cats r) 8 && Nat.ble cn.1 mx.1 && Nat.ble cn.2 mx.2) (K (nx, ls, .inl (if bg_w y < bg_w x then y else x) :: r, H, cn))
    | 4 => bg_q2 st fun x y r => bg_if (Nat.ble (bg_cats r) 8 && Nat.ble cn.1 mx.1 && Nat.ble cn.2 mx.2) (K (nx, ls, .inr (.inl (if bg_W y < bg_W x then x else y)) :: r, H, cn))
    | _ => (match bg_pop b st [] with
      | some (as, rest) => bg_call C mx a as nx ls rest H cn K
      | none => False))
  | (.invokespecial _, nx, (a, b, t, _)) => (match t with
    | 1 => bg_r1 st fun _ r => bg_if (Nat.ble (bg_cats r) 8) (K (nx, ls, r, H, cn))
    | _ => (match bg_pop (b + 1) st [] with
      | some (.inr (.inr (some k)) :: as, rest) => bg_call C mx a (.inr (.inr (some k)) :: as) nx ls rest H cn K
      | _ => False))
  | (.ireturn, _, (_, _, t, _)) => (match st with
    | [.inl x] => bg_if (Nat.ble cn.1 mx.1 && Nat.ble cn.2 mx.2) (match t with
      | 0 => Rt (some (.inl x)) H
      | _ => (x = 0 ∨ x = 1) ∧ Rt (some (.inl x)) H)
    | _ => False)
  | (.lreturn, _, _) => (match st with
    | [.inr (.inl x)] => bg_if (Nat.ble cn.1 mx.1 && Nat.ble cn.2 mx.2) (Rt (some (.inr (.inl x))) H)
    | _ => False)
  | (.return_, _, _) => (match st with
    | [] => bg_if (Nat.ble cn.1 mx.1 && Nat.ble cn.2 mx.2) (Rt none H)
    | _ => False)
  | _ => False
def bg_in : List (Nat × bg_I) → Nat → Option bg_I
  | [], _ => none
  | (i, q) :: l, pc => match Nat.beq pc i with
    | true => some q
    | false => bg_in l pc
def bg_look : bg_K → Nat → Option bg_I
  | [], _ => none
  | (m, l) :: r, pc => match Nat.ble pc m with
    | true => bg_in l pc
    | false => bg_look r pc
def bg_st (C : Nat → List bg_V → bg_H → bg_R → Prop) (cd : bg_K) (mx : Nat × Nat) (f : bg_F) (K : bg_F → Prop) (Rt : bg_R) : Prop := match f with
  | (pc, ls, st, H, cn) => (match bg_look cd pc with
    | some q => bg_wp C mx q ls st H cn K Rt
    | none => False)
/-- the least set of frames that is closed under single instructions backwards -/
def bg_run (C : Nat → List bg_V → bg_H → bg_R → Prop) (cd : bg_K) (mx : Nat × Nat) (f : bg_F) (Rt : bg_R) : Prop := ∀ X : bg_F → Prop, (∀ g, bg_st C cd mx g X Rt → X g) → X f
def bg_lay : List bg_V → Nat → bg_L
  | [], 0 => []
  | [], n + 1 => none :: bg_lay [] n
  | .inr (.inl x) :: vs, n => some (.inr (.inl x)) :: none :: bg_lay vs (n - 2)
  | v :: vs, n => some v :: bg_lay vs (n - 1)
/-- method k at depth d: from these arguments and this heap it returns, with Rt -/
def bg_Ca (MS : List bg_M) : Nat → Nat → List bg_V → bg_H → bg_R → Prop
  | 0, _, _, _, _ => False
  | d + 1, k, as, H, Rt => match bg_nth MS k with
    | some (_, _, ml, _, cd, mx, _) => bg_if (Nat.ble (bg_cats as) ml) (bg_run (bg_Ca MS d) cd mx (0, bg_lay as ml, [], H, (0, 0)) Rt)
    | none => False
