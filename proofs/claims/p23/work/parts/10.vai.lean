/-! ===== the checker: intervals over symbolic variables ===== -/
abbrev tv_A : Type := Nat × Nat × Int
abbrev tv_E : Type := List (Int × Int)
abbrev tv_F : Type := List ((Nat × Nat) × tv_A)
abbrev tv_T : Type := Nat × Int × Int
abbrev tv_M : Type := List (Int × Nat × Int)
abbrev tv_H : Type := Nat × List tv_T × tv_M
/-- a context: method, types of the arguments, heads, cases of the answer (type, arguments narrowed), fields written, rank -/
abbrev tv_C : Type := Nat × List tv_T × List tv_H × List (tv_T × List (Nat × Int × Int)) × List (Nat × Nat) × Nat
abbrev tv_TT : Type := List (List (Int × Int) ⊕ (Int × Int))
def tv_lo : Int := -2147483648
def tv_hi : Int := 2147483647
def tv_ti (T : tv_TT) (k j : Nat) : Int × Int := match T[k]? with
  | some (.inl l) => l.getD j (tv_lo, tv_hi)
  | some (.inr q) => q
  | none => (tv_lo, tv_hi)
def tv_le : Int → Int → Bool
  | .ofNat m, .ofNat n => Nat.ble m n
  | .negSucc _, .ofNat _ => true
  | .ofNat _, .negSucc _ => false
  | .negSucc m, .negSucc n => Nat.ble n m
def tv_eq (a b : Int) : Bool := tv_le a b && tv_le b a
def tv_mx (a b : Int) : Int := cond (tv_le a b) b a
def tv_mn (a b : Int) : Int := cond (tv_le a b) a b
def tv_iv (E : tv_E) : tv_A → Option (Int × Int)
  | (1, v, o) => match E[v]? with
    | some q => some (q.1 + o, q.2 + o)
    | none => none
  | _ => none
def tv_nw (r : Int × Int) : Int × Int := cond (tv_le tv_lo r.1 && tv_le r.2 tv_hi) r (tv_lo, tv_hi)
def tv_bl (n : Int) : Nat := match n.toNat with
  | 0 => 0
  | k + 1 => Nat.log2 (k + 1) + 1
def tv_any : Int × Int := (tv_lo, tv_hi)
def tv_sr (x y : Int × Int) : Int × Int := cond (tv_le 0 y.1 && tv_le y.2 31) (x.1 / 2 ^ y.2.toNat, x.2 / 2 ^ y.1.toNat) (0, x.2)
def tv_bi (o : Nat) (x y : Int × Int) : Int × Int := match o with
  | 0 => (x.1 + y.1, x.2 + y.2)
  | 1 => (x.1 - y.2, x.2 - y.1)
  | 2 => (tv_mn (tv_mn (x.1 * y.1) (x.1 * y.2)) (tv_mn (x.2 * y.1) (x.2 * y.2)), tv_mx (tv_mx (x.1 * y.1) (x.1 * y.2)) (tv_mx (x.2 * y.1) (x.2 * y.2)))
  | 3 => cond (tv_le 0 x.1) (cond (tv_le 0 y.1) (0, tv_mn x.2 y.2) (0, x.2)) (cond (tv_le 0 y.1) (0, y.2) tv_any)
  | 4 => cond (tv_le 0 x.1 && tv_le 0 y.1) (tv_mx x.1 y.1, 2 ^ Nat.max (tv_bl x.2) (tv_bl y.2) - 1) tv_any
  | 5 => cond (tv_le 0 x.1 && tv_le 0 y.1) (0, 2 ^ Nat.max (tv_bl x.2) (tv_bl y.2) - 1) tv_any
  | 6 => cond (tv_le 0 x.1 && tv_le 0 y.1 && tv_le y.2 31 && tv_le (x.2 * 2 ^ y.2.toNat) tv_hi) (x.1 * 2 ^ y.1.toNat, x.2 * 2 ^ y.2.toNat) tv_any
  | 7 => cond (tv_le 0 x.1) (tv_sr x y) tv_any
  | _ => cond (tv_le 0 x.1) (tv_sr x y) (cond (tv_le 1 y.1 && tv_le y.2 31) (0, 2 ^ (32 - y.1.toNat) - 1) tv_any)
/-- a result that is a variable and a number, where it can be: else none -/
def tv_ex (nL o : Nat) (x y : tv_A) (X Y : Int × Int) : Option tv_A := match o with
  | 0 => cond (Nat.beq y.2.1 nL && tv_le tv_lo (X.1 + y.2.2) && tv_le (X.2 + y.2.2) tv_hi) (some (1, x.2.1, x.2.2 + y.2.2))
      (cond (Nat.beq x.2.1 nL && tv_le tv_lo (Y.1 + x.2.2) && tv_le (Y.2 + x.2.2) tv_hi) (some (1, y.2.1, y.2.2 + x.2.2)) none)
  | 1 => cond (Nat.beq y.2.1 nL && tv_le tv_lo (X.1 - y.2.2) && tv_le (X.2 - y.2.2) tv_hi) (some (1, x.2.1, x.2.2 - y.2.2)) none
  | _ => none
def tv_cut (E : tv_E) (a : tv_A) (lo hi : Int) : Option tv_E := match E[a.2.1]? with
  | some q => cond (tv_le (tv_mx q.1 (lo - a.2.2)) (tv_mn q.2 (hi - a.2.2))) (some (E.set a.2.1 (tv_mx q.1 (lo - a.2.2), tv_mn q.2 (hi - a.2.2)))) none
  | none => none
def tv_cut2 (E : tv_E) (x : tv_A) (a b : Int) (y : tv_A) (c d : Int) : Option tv_E := match tv_cut E x a b with
  | some E1 => tv_cut E1 y c d
  | none => none
/-- what a condition says of the variables: none where it can't hold. 0 eq 1 ne 2 lt 3 ge 4 gt 5 le -/
def tv_rf (E : tv_E) (c : Nat) (x y : tv_A) (X Y : Int × Int) : Option tv_E := match c with
  | 0 => tv_cut2 E x Y.1 Y.2 y X.1 X.2
  | 1 => cond (tv_eq Y.1 Y.2)
      (cond (tv_eq X.1 Y.1) (tv_cut E x (X.1 + 1) X.2) (cond (tv_eq X.2 Y.1) (tv_cut E x X.1 (X.2 - 1)) (some E)))
      (cond (tv_eq X.1 X.2) (cond (tv_eq Y.1 X.1) (tv_cut E y (Y.1 + 1) Y.2) (cond (tv_eq Y.2 X.1) (tv_cut E y Y.1 (Y.2 - 1)) (some E))) (some E))
  | 2 => tv_cut2 E x X.1 (Y.2 - 1) y (X.1 + 1) Y.2
  | 3 => tv_cut2 E y Y.1 X.2 x Y.1 X.2
  | 4 => tv_cut2 E y Y.1 (X.2 - 1) x (Y.1 + 1) X.2
  | _ => tv_cut2 E x X.1 Y.2 y X.1 Y.2
def tv_ng : Nat → Nat
  | 0 => 1
  | 1 => 0
  | 2 => 3
  | 3 => 2
  | 4 => 5
  | _ => 4
def tv_sub (E : tv_E) (a : tv_A) (t : tv_T) : Bool := match t with
  | (0, _, _) => true
  | (1, lo, hi) => match tv_iv E a with
    | some q => tv_le lo q.1 && tv_le q.2 hi
    | none => false
  | (2, _, _) => Nat.beq a.1 2
  | (3, lo, hi) => Nat.beq a.1 3 && tv_le lo (a.2.1 : Int) && tv_le a.2.2 hi
  | _ => false
def tv_k1 (L : List tv_A) (k : Nat) : List tv_A := match k with
  | 0 => L
  | i + 1 => match L[i]? with
    | some (2, _, _) => L.set i (0, 0, 0)
    | _ => L
def tv_s1 (L : List tv_A) (k : Nat) (a : tv_A) : List tv_A := (tv_k1 L k).set k a
def tv_s2 (L : List tv_A) (k : Nat) (a : tv_A) : List tv_A := ((tv_k1 L k).set k a).set (k + 1) (0, 0, 0)
def tv_fl (F : tv_F) (p k : Nat) : Option tv_A := match F with
  | [] => none
  | q :: t => cond (Nat.beq q.1.1 p && Nat.beq q.1.2 k) (some q.2) (tv_fl t p k)
def tv_fd (F : tv_F) (p k : Nat) : tv_F := F.filter (fun q => !(Nat.beq q.1.1 p && Nat.beq q.1.2 k))
def tv_mem (w : List (Nat × Nat)) (p k : Nat) : Bool := w.any (fun q => Nat.beq q.1 p && Nat.beq q.2 k)
/-- the references that vary: where, from which place to which, whether a read of them goes on place by place -/
def tv_rt : List ((Nat × Nat) × Nat × Nat × Bool) := [((0, 8), 9, 10, true), ((6, 1), 9, 10, true), ((6, 3), tt_EN, tt_EN + 8, false)]
def tv_rg (p k : Nat) : Option (Nat × Nat × Bool) := match tv_rt.find? (fun q => Nat.beq q.1.1 p && Nat.beq q.1.2 k) with
  | some q => some q.2
  | none => none
/-- all places of a range are arrays of this kind, length and type -/
def tv_ar (T : tv_TT) (t L : Nat) (ty : Int × Int) (p : Nat) : Nat → Bool
  | 0 => true
  | n + 1 => (match tt_shp[p]? with
      | some (.inr q) => Nat.beq q.1 t && Nat.beq q.2 L && tv_eq (tv_ti T p 0).1 ty.1 && tv_eq (tv_ti T p 0).2 ty.2
      | _ => false) && (match T[p]? with
      | some (.inl _) => false
      | _ => true) && tv_ar T t L ty (p + 1) n
def tv_rc : Type := Nat → tv_E → List tv_A → List tv_A → tv_F → Bool
def tv_opt (r : Option tv_E) (f : tv_E → Bool) : Bool := match r with
  | some E => f E
  | none => true
def tv_po : List tv_T → Nat → List Nat
  | [], _ => []
  | t :: ts, i => i :: tv_po ts (cond (Nat.beq t.1 2) (i + 2) (i + 1))
/-- the locals that no instruction of the method stores to -/
def tv_kq (i : Nat) : tt_Op → Bool
  | (3, k, _, _) => !(Nat.beq k i)
  | (4, k, _, _) => !(Nat.beq k i) && !(Nat.beq (k + 1) i)
  | (5, k, _, _) => !(Nat.beq k i)
  | (6, k, _, _) => !(Nat.beq k i)
  | _ => true
def tv_kp (j i : Nat) : Bool := (tt_tab.getD j []).all (fun q => tv_kq i q.2.1)
def tv_gT (ts : List tv_T) (S : List tv_A) (E : tv_E) : Bool := match ts, S with
  | [], [] => true
  | t :: ts, a :: S => tv_sub E a t && tv_gT ts S E
  | _, _ => false
def tv_gA (ts : List tv_T) (S : List tv_A) (E : tv_E) : Bool := match ts, S with
  | [], [] => true
  | t :: ts, a :: S => Nat.blt 0 t.1 && tv_sub E a t && tv_gA ts S E
  | _, _ => false
/-- the arguments narrowed by a case of the answer: none where the case can't be -/
def tv_nr (E : tv_E) (ar : List tv_A) : List (Nat × Int × Int) → Option tv_E
  | [] => some E
  | q :: t => match ar[q.1]? with
    | some a => cond (Nat.beq a.1 1) (match tv_cut E a q.2.1 q.2.2 with
        | some E1 => tv_nr E1 ar t
        | none => none) (tv_nr E ar t)
    | none => tv_nr E ar t
def tv_cs (rc : tv_rc) (pc : Nat) (E : tv_E) (L ar S : List tv_A) (F : tv_F) : List (tv_T × List (Nat × Int × Int)) → Bool
  | [] => true
  | q :: t => tv_opt (tv_nr E ar q.2) (fun E1 => match q.1 with
      | (0, _, _) => rc pc E1 L S F
      | (1, lo, hi) => rc pc (E1 ++ [(lo, hi)]) L ((1, E1.length, 0) :: S) F
      | (2, _, _) => rc pc E1 L ((2, 0, 0) :: S) F
      | (3, lo, hi) => rc pc E1 L ((3, lo.toNat, hi) :: S) F
      | _ => false) && tv_cs rc pc E L ar S F t
/-- the kind of an answer fits the method's -/
def tv_rk (r : Option FieldType) (t : tv_T) : Bool := match r with
  | none => Nat.beq t.1 0
  | some .int => Nat.beq t.1 1
  | some .boolean => Nat.beq t.1 1
  | some .char => Nat.beq t.1 1
  | some .byte => Nat.beq t.1 1
  | some .long => Nat.beq t.1 2
  | some _ => Nat.beq t.1 3
/-- the first context of that method whose arguments' types hold these -/
def tv_pick (j : Nat) (cs : List tv_C) (E : tv_E) (ar : List tv_A) (rk : Nat) : Option tv_C := match cs with
  | [] => none
  | c :: t => cond (Nat.beq c.1 j && tv_gA c.2.1 ar E && Nat.blt c.2.2.2.2.2 rk) (some c) (tv_pick j t E ar rk)
def tv_cat (S : List tv_A) : Nat := match S with
  | [] => 0
  | a :: t => cond (Nat.beq a.1 2) 2 1 + tv_cat t
def tv_isA (a : tv_A) (cls : String) : Bool := Nat.beq a.1 3 && tv_eq (a.2.1 : Int) a.2.2 && (match tt_shp[a.2.1]? with
  | some (.inl q) => (match tt_cl[q.1]? with
    | some r => decide (r.1 = cls)
    | none => false)
  | some (.inr _) => false
  | none => decide (cls = "java/lang/String") && Nat.ble tt_ST a.2.1 && Nat.blt a.2.1 (tt_ST + tt_NS))
/-- reading a reference that varies, place by place -/
def tv_each (rc : tv_rc) (pc : Nat) (E : tv_E) (L S : List tv_A) (F : tv_F) (p k q : Nat) : Nat → Bool
  | 0 => true
  | n + 1 => rc pc E L ((3, q, (q : Int)) :: S) (((p, k), (3, q, (q : Int))) :: F) && tv_each rc pc E L S F p k (q + 1) n
def tv_retv (E : tv_E) (L : List tv_A) (po : List Nat) (a : tv_A) : List (tv_T × List (Nat × Int × Int)) → Bool
  | [] => false
  | q :: t => (tv_sub E a q.1 && q.2.all (fun w => match po[w.1]? with
      | some i => (match L[i]? with
        | some b => (match tv_iv E b with
          | some I => tv_le w.2.1 I.1 && tv_le I.2 w.2.2
          | none => false)
        | none => false)
      | none => false)) || tv_retv E L po a t
def tv_hld (k : Nat) (rc : tv_rc) (pc : Nat) (E : tv_E) (L S : List tv_A) (F : tv_F) (t : Nat) : Bool := match L[k]? with
  | some a => Nat.beq a.1 t && rc pc E L (a :: S) F
  | none => false
def tv_hs1 (k : Nat) (rc : tv_rc) (pc : Nat) (E : tv_E) (L S : List tv_A) (F : tv_F) (t : Nat) : Bool := match S with
  | a :: S => Nat.beq a.1 t && rc pc E (tv_s1 L k a) S F
  | [] => false
def tv_hs2 (k : Nat) (rc : tv_rc) (pc : Nat) (E : tv_E) (L S : List tv_A) (F : tv_F) : Bool := match S with
  | a :: S => Nat.beq a.1 2 && rc pc E (tv_s2 L k a) S F
  | [] => false
def tv_hinc (k : Nat) (z : Int) (rc : tv_rc) (pc : Nat) (E : tv_E) (L S : List tv_A) (F : tv_F) : Bool := match L[k]? with
  | some a => (match tv_iv E a with
    | some q => tv_le tv_lo z && tv_le z tv_hi && cond (tv_le tv_lo (q.1 + z) && tv_le (q.2 + z) tv_hi) (rc pc E (tv_s1 L k (1, a.2.1, a.2.2 + z)) S F) (rc pc (E ++ [tv_any]) (tv_s1 L k (1, E.length, 0)) S F)
    | none => false)
  | none => false
def tv_zero (E : tv_E) (nL : Nat) : Bool := match E[nL]? with
  | some q => tv_eq q.1 0 && tv_eq q.2 0
  | none => false
def tv_hcon (nL : Nat) (z : Int) (rc : tv_rc) (pc : Nat) (E : tv_E) (L S : List tv_A) (F : tv_F) : Bool := tv_zero E nL && tv_le tv_lo z && tv_le z tv_hi && rc pc E L ((1, nL, z) :: S) F
def tv_hib (nL o : Nat) (rc : tv_rc) (pc : Nat) (E : tv_E) (L S : List tv_A) (F : tv_F) : Bool := match S with
  | y :: x :: S => (match tv_iv E x, tv_iv E y with
    | some X, some Y => tv_zero E nL && (match tv_ex nL o x y X Y with
      | some r => rc pc E L (r :: S) F
      | none => rc pc (E ++ [tv_nw (tv_bi o X Y)]) L ((1, E.length, 0) :: S) F)
    | _, _ => false)
  | _ => false
def tv_hdiv (rc : tv_rc) (pc : Nat) (E : tv_E) (L S : List tv_A) (F : tv_F) : Bool := match S with
  | y :: x :: S => (match tv_iv E x, tv_iv E y with
    | some X, some Y => tv_le 1 Y.1 && rc pc (E ++ [cond (tv_le 0 X.1) (X.1 / Y.2, X.2 / Y.1) (tv_mn X.1 0, tv_mx X.2 0)]) L ((1, E.length, 0) :: S) F
    | _, _ => false)
  | _ => false
def tv_hrem (rc : tv_rc) (pc : Nat) (E : tv_E) (L S : List tv_A) (F : tv_F) : Bool := match S with
  | y :: x :: S => (match tv_iv E x, tv_iv E y with
    | some X, some Y => tv_le 1 Y.1 && rc pc (E ++ [cond (tv_le 0 X.1) (0, tv_mn X.2 (Y.2 - 1)) (1 - Y.2, Y.2 - 1)]) L ((1, E.length, 0) :: S) F
    | _, _ => false)
  | _ => false
def tv_hneg (rc : tv_rc) (pc : Nat) (E : tv_E) (L S : List tv_A) (F : tv_F) : Bool := match S with
  | x :: S => (match tv_iv E x with
    | some X => rc pc (E ++ [tv_nw (-X.2, -X.1)]) L ((1, E.length, 0) :: S) F
    | none => false)
  | _ => false
/-- two operands of these kinds: a long; a number of an interval -/
def tv_hll (s t : Nat) (rc : tv_rc) (pc : Nat) (E : tv_E) (L S : List tv_A) (F : tv_F) : Bool := match S with
  | y :: x :: S => Nat.beq y.1 s && Nat.beq x.1 t && rc pc E L ((2, 0, 0) :: S) F
  | _ => false
def tv_hcmp (rc : tv_rc) (pc : Nat) (E : tv_E) (L S : List tv_A) (F : tv_F) : Bool := match S with
  | y :: x :: S => Nat.beq y.1 2 && Nat.beq x.1 2 && rc pc (E ++ [(-1, 1)]) L ((1, E.length, 0) :: S) F
  | _ => false
def tv_hcv (o : Nat) (rc : tv_rc) (pc : Nat) (E : tv_E) (L S : List tv_A) (F : tv_F) : Bool := match S with
  | x :: S => (match o with
    | 0 => Nat.beq x.1 1 && rc pc E L ((2, 0, 0) :: S) F
    | 1 => Nat.beq x.1 2 && rc pc (E ++ [tv_any]) L ((1, E.length, 0) :: S) F
    | 2 => (match tv_iv E x with
      | some X => cond (tv_le 0 X.1 && tv_le X.2 65535) (rc pc E L (x :: S) F) (rc pc (E ++ [(0, 65535)]) L ((1, E.length, 0) :: S) F)
      | none => false)
    | _ => false)
  | _ => false
def tv_hdup (rc : tv_rc) (pc : Nat) (E : tv_E) (L S : List tv_A) (F : tv_F) : Bool := match S with
  | x :: S => (Nat.beq x.1 1 || Nat.beq x.1 3) && rc pc E L (x :: x :: S) F
  | _ => false
def tv_hpop (rc : tv_rc) (pc : Nat) (E : tv_E) (L S : List tv_A) (F : tv_F) : Bool := match S with
  | x :: S => (Nat.beq x.1 1 || Nat.beq x.1 3) && rc pc E L S F
  | _ => false
/-- an object's place, of class ci -/
def tv_ob (a : tv_A) (ci : Nat) : Option (List Nat) := cond (Nat.beq a.1 3 && tv_eq (a.2.1 : Int) a.2.2) (match tt_shp[a.2.1]? with
  | some (.inl q) => cond (Nat.beq q.1 ci) (some q.2) none
  | _ => none) none
def tv_hgi (T : tv_TT) (p k : Nat) (rc : tv_rc) (pc : Nat) (E : tv_E) (L S : List tv_A) (F : tv_F) : Bool := match tv_fl F p k with
  | some a => Nat.beq a.1 1 && rc pc E L (a :: S) F
  | none => rc pc (E ++ [tv_ti T p k]) L ((1, E.length, 0) :: S) (((p, k), (1, E.length, 0)) :: F)
def tv_hgr (p k : Nat) (rc : tv_rc) (pc : Nat) (E : tv_E) (L S : List tv_A) (F : tv_F) : Bool := match tv_fl F p k with
  | some a => Nat.beq a.1 3 && rc pc E L (a :: S) F
  | none => (match tv_rg p k with
    | some q => cond q.2.2 (tv_each rc pc E L S F p k q.1 (q.2.1 + 1 - q.1)) (rc pc E L ((3, q.1, (q.2.1 : Int)) :: S) F)
    | none => false)
def tv_hget (T : tv_TT) (o : Nat) (rc : tv_rc) (pc : Nat) (E : tv_E) (L S : List tv_A) (F : tv_F) : Bool := match S with
  | a :: S => (match tv_ob a (o / 64) with
    | some ks => (match ks[o % 64]? with
      | some kd => (match kd with
        | 0 => tv_hgi T a.2.1 (o % 64) rc pc E L S F
        | 1 => tv_hgi T a.2.1 (o % 64) rc pc E L S F
        | 2 => false
        | 3 => tv_hgr a.2.1 (o % 64) rc pc E L S F
        | r + 4 => rc pc E L ((3, r, (r : Int)) :: S) F)
      | none => false)
    | none => false)
  | _ => false
def tv_hput (T : tv_TT) (w : List (Nat × Nat)) (o : Nat) (rc : tv_rc) (pc : Nat) (E : tv_E) (L S : List tv_A) (F : tv_F) : Bool := match S with
  | v :: a :: S => (match tv_ob a (o / 64) with
    | some ks => tv_mem w a.2.1 (o % 64) && (match ks[o % 64]? with
      | some kd => (match kd with
        | 0 => tv_sub E v (1, tv_ti T a.2.1 (o % 64)) && rc pc E L S (((a.2.1, o % 64), v) :: tv_fd F a.2.1 (o % 64))
        | 1 => tv_sub E v (1, tv_ti T a.2.1 (o % 64)) && tv_sub E v (1, 0, 1) && rc pc E L S (((a.2.1, o % 64), v) :: tv_fd F a.2.1 (o % 64))
        | 3 => (match tv_rg a.2.1 (o % 64) with
          | some q => tv_sub E v (3, (q.1 : Int), (q.2.1 : Int)) && rc pc E L S (((a.2.1, o % 64), v) :: tv_fd F a.2.1 (o % 64))
          | none => false)
        | _ => false)
      | none => false)
    | none => false)
  | _ => false
/-- an array's place or places, an index: kind, length -/
def tv_ix (E : tv_E) (i a : tv_A) : Option (Nat × Nat) := cond (Nat.beq a.1 3) (match tv_iv E i, tt_shp[a.2.1]? with
  | some I, some (.inr q) => cond (tv_le 0 I.1 && tv_le (I.2 + 1) (q.2 : Int)) (some q) none
  | _, _ => none) none
def tv_all (T : tv_TT) (a : tv_A) (t N : Nat) : Bool := tv_ar T t N (tv_ti T a.2.1 0) a.2.1 (a.2.2.toNat + 1 - a.2.1)
def tv_hald (T : tv_TT) (o : Nat) (rc : tv_rc) (pc : Nat) (E : tv_E) (L S : List tv_A) (F : tv_F) : Bool := match S with
  | i :: a :: S => (match tv_ix E i a with
    | some q => (match o with
      | 0 => tv_all T a 0 q.2 && rc pc (E ++ [tv_ti T a.2.1 0]) L ((1, E.length, 0) :: S) F
      | 1 => tv_all T a 1 q.2 && rc pc E L ((2, 0, 0) :: S) F
      | 2 => tv_all T a 2 q.2 && rc pc (E ++ [tv_ti T a.2.1 0]) L ((1, E.length, 0) :: S) F
      | 3 => Nat.ble 3 q.1 && tv_eq (a.2.1 : Int) a.2.2 && rc pc E L ((3, q.1 - 3, ((q.1 - 3 + q.2 - 1 : Nat) : Int)) :: S) F
      | _ => false)
    | none => false)
  | _ => false
/-- these arrays may be written: said by (place, 64) -/
def tv_mk (w : List (Nat × Nat)) (p : Nat) : Nat → Bool
  | 0 => true
  | n + 1 => tv_mem w (p + n) 64 && tv_mk w p n
def tv_hast (T : tv_TT) (w : List (Nat × Nat)) (o : Nat) (rc : tv_rc) (pc : Nat) (E : tv_E) (L S : List tv_A) (F : tv_F) : Bool := match S with
  | v :: i :: a :: S => (match tv_ix E i a with
    | some q => tv_mk w a.2.1 (a.2.2.toNat + 1 - a.2.1) && (match o with
      | 0 => tv_all T a 0 q.2 && tv_sub E v (1, tv_ti T a.2.1 0) && rc pc E L S F
      | 1 => tv_all T a 1 q.2 && Nat.beq v.1 2 && rc pc E L S F
      | 2 => tv_all T a 2 q.2 && tv_sub E v (1, tv_ti T a.2.1 0) && tv_sub E v (1, 0, 1) && rc pc E L S F
      | _ => false)
    | none => false)
  | _ => false
def tv_hlen (T : tv_TT) (nL : Nat) (rc : tv_rc) (pc : Nat) (E : tv_E) (L S : List tv_A) (F : tv_F) : Bool := match S with
  | a :: S => Nat.beq a.1 3 && tv_zero E nL && (match tt_shp[a.2.1]? with
    | some (.inr q) => tv_all T a q.1 q.2 && tv_le (q.2 : Int) tv_hi && rc pc E L ((1, nL, (q.2 : Int)) :: S) F
    | _ => false)
  | _ => false
def tv_hif (nL : Nat) (z : Int) (rc : tv_rc) (pt pc : Nat) (E : tv_E) (L S : List tv_A) (F : tv_F) : Bool := match S with
  | x :: S => (match tv_iv E x with
    | some X => tv_zero E nL && tv_le 0 z && tv_le z 5 && tv_opt (tv_rf E z.toNat x (1, nL, 0) X (0, 0)) (fun E1 => rc pt E1 L S F) && tv_opt (tv_rf E (tv_ng z.toNat) x (1, nL, 0) X (0, 0)) (fun E1 => rc pc E1 L S F)
    | none => false)
  | _ => false
def tv_hic (z : Int) (rc : tv_rc) (pt pc : Nat) (E : tv_E) (L S : List tv_A) (F : tv_F) : Bool := match S with
  | y :: x :: S => (match tv_iv E x, tv_iv E y with
    | some X, some Y => tv_le 0 z && tv_le z 5 && tv_opt (tv_rf E z.toNat x y X Y) (fun E1 => rc pt E1 L S F) && tv_opt (tv_rf E (tv_ng z.toNat) x y X Y) (fun E1 => rc pc E1 L S F)
    | _, _ => false)
  | _ => false
def tv_dj (x y : tv_A) : Bool := tv_le (x.2.2 + 1) (y.2.1 : Int) || tv_le (y.2.2 + 1) (x.2.1 : Int)
def tv_sm (x y : tv_A) : Bool := tv_eq (x.2.1 : Int) x.2.2 && tv_eq (y.2.1 : Int) y.2.2 && Nat.beq x.2.1 y.2.1
def tv_hac (z : Int) (rc : tv_rc) (pt pc : Nat) (E : tv_E) (L S : List tv_A) (F : tv_F) : Bool := match S with
  | y :: x :: S => Nat.beq y.1 3 && Nat.beq x.1 3 && tv_le (y.2.2 + 1) (tt_NQ : Int) && tv_le (x.2.2 + 1) (tt_NQ : Int) &&
      cond (tv_eq z 0) ((tv_dj x y || rc pt E L S F) && (tv_sm x y || rc pc E L S F)) ((tv_sm x y || rc pt E L S F) && (tv_dj x y || rc pc E L S F))
  | _ => false
def tv_hsw (zz : List (Int × Nat)) (rc : tv_rc) (pt : Nat) (E : tv_E) (L S : List tv_A) (F : tv_F) : Bool := match S with
  | x :: S => Nat.beq x.1 1 && zz.all (fun q => tv_opt (tv_cut E x q.1 q.1) (fun E1 => rc q.2 E1 L S F)) && rc pt E L S F
  | _ => false
def tv_hret (c : tv_C) (o : Nat) (E : tv_E) (L S : List tv_A) : Bool := match S with
  | [] => Nat.beq o 0 && tv_retv E L (tv_po c.2.1 0) (0, 0, 0) c.2.2.2.1
  | [a] => (match o with
    | 1 => (match tt_r c.1 with
      | some .int => Nat.beq a.1 1
      | some .boolean => tv_sub E a (1, 0, 1)
      | _ => false) && tv_retv E L (tv_po c.2.1 0) a c.2.2.2.1
    | 2 => Nat.beq a.1 2 && tv_retv E L (tv_po c.2.1 0) a c.2.2.2.1
    | 3 => Nat.beq a.1 3 && tv_retv E L (tv_po c.2.1 0) a c.2.2.2.1
    | _ => false)
  | _ => false
def tv_hcal (cx : Nat → List tv_C) (c : tv_C) (j2 : Nat) (rc : tv_rc) (pc : Nat) (E : tv_E) (L ar S : List tv_A) (F : tv_F) : Bool :=
  Nat.beq ar.length (tt_p j2 + cond (tt_s j2) 0 1) && Nat.ble (tv_cat S) 8 && Nat.ble (tv_cat ar) (tt_n j2) && (tt_s j2 || (match ar with
    | a :: _ => tv_isA a (tt_y j2).cls
    | [] => false)) && (match tv_pick j2 (cx j2) E ar c.2.2.2.2.2 with
  | some c2 => c2.2.2.2.2.1.all (fun q => tv_mem c.2.2.2.2.1 q.1 q.2) && tv_cs rc pc E L ar S (F.filter (fun q => !(tv_mem c2.2.2.2.2.1 q.1.1 q.1.2))) c2.2.2.2.1
  | none => false)
/-- Math.abs, min, max -/
def tv_mi (o : Nat) (x y : Int × Int) : Int × Int := match o with
  | 0 => cond (tv_le 0 x.1) x (cond (tv_le (tv_lo + 1) x.1) (0, tv_mx (-x.1) x.2) tv_any)
  | 1 => (tv_mn x.1 y.1, tv_mn x.2 y.2)
  | _ => (tv_mx x.1 y.1, tv_mx x.2 y.2)
def tv_hmth (rk o : Nat) (rc : tv_rc) (pc : Nat) (E : tv_E) (L S : List tv_A) (F : tv_F) : Bool := Nat.blt 0 rk && (match o with
  | 0 => (match S with
    | x :: S => (match tv_iv E x with
      | some X => Nat.ble (tv_cat S) 8 && rc pc (E ++ [tv_mi 0 X X]) L ((1, E.length, 0) :: S) F
      | none => false)
    | _ => false)
  | 1 => (match S with
    | y :: x :: S => (match tv_iv E x, tv_iv E y with
      | some X, some Y => Nat.ble (tv_cat S) 8 && rc pc (E ++ [tv_mi 1 X Y]) L ((1, E.length, 0) :: S) F
      | _, _ => false)
    | _ => false)
  | 2 => (match S with
    | y :: x :: S => (match tv_iv E x, tv_iv E y with
      | some X, some Y => Nat.ble (tv_cat S) 8 && rc pc (E ++ [tv_mi 2 X Y]) L ((1, E.length, 0) :: S) F
      | _, _ => false)
    | _ => false)
  | _ => false)
def tv_step (T : tv_TT) (cx : Nat → List tv_C) (c : tv_C) (rc : tv_rc) (pc : Nat) (E : tv_E) (L S : List tv_A) (F : tv_F) : Bool := match tt_at c.1 pc with
  | none => false
  | some ((t, a, z, zz), n) => match t with
    | 0 => tv_hld a rc (pc + n) E L S F 1
    | 1 => tv_hld a rc (pc + n) E L S F 2
    | 2 => tv_hld a rc (pc + n) E L S F 3
    | 3 => tv_hs1 a rc (pc + n) E L S F 1
    | 4 => tv_hs2 a rc (pc + n) E L S F
    | 5 => tv_hs1 a rc (pc + n) E L S F 3
    | 6 => tv_hinc a z rc (pc + n) E L S F
    | 7 => tv_hcon (tt_n c.1) z rc (pc + n) E L S F
    | 8 => rc (pc + n) E L ((2, 0, 0) :: S) F
    | 9 => tv_hib (tt_n c.1) a rc (pc + n) E L S F
    | 10 => tv_hdiv rc (pc + n) E L S F
    | 11 => tv_hrem rc (pc + n) E L S F
    | 12 => tv_hneg rc (pc + n) E L S F
    | 13 => tv_hll 2 2 rc (pc + n) E L S F
    | 14 => tv_hll 1 2 rc (pc + n) E L S F
    | 15 => tv_hcmp rc (pc + n) E L S F
    | 16 => tv_hcv a rc (pc + n) E L S F
    | 17 => tv_hdup rc (pc + n) E L S F
    | 18 => tv_hpop rc (pc + n) E L S F
    | 19 => tv_hget T a rc (pc + n) E L S F
    | 20 => tv_hput T c.2.2.2.2.1 a rc (pc + n) E L S F
    | 21 => tv_hald T a rc (pc + n) E L S F
    | 22 => tv_hast T c.2.2.2.2.1 a rc (pc + n) E L S F
    | 23 => tv_hlen T (tt_n c.1) rc (pc + n) E L S F
    | 24 => rc a E L S F
    | 25 => tv_hif (tt_n c.1) z rc a (pc + n) E L S F
    | 26 => tv_hic z rc a (pc + n) E L S F
    | 27 => tv_hac z rc a (pc + n) E L S F
    | 28 => tv_hsw zz rc a E L S F
    | 29 => tv_hret c a E L S
    | 30 => tv_hcal cx c a rc (pc + n) E L (S.take (tt_p a + cond (tt_s a) 0 1)).reverse (S.drop (tt_p a + cond (tt_s a) 0 1)) F
    | 31 => rc (pc + n) E L ((3, a, (a : Int)) :: S) F
    | 33 => rc (pc + n) E L ((3, a, (a : Int)) :: S) F
    | 36 => tv_hmth c.2.2.2.2.2 a rc (pc + n) E L S F
    | _ => false
/-- a head's measure: terms sg * local + k, the first that differs decides -/
def tv_tm (E : tv_E) (a : tv_A) (sg k : Int) : Option (Int × Int) := cond (tv_eq sg 0) (some (k, k)) (match tv_iv E a with
  | some q => cond (tv_eq sg 1) (some (q.1 + k, q.2 + k)) (cond (tv_eq sg (-1)) (some (k - q.2, k - q.1)) none)
  | none => none)
def tv_lex (E : tv_E) (L : List tv_A) : tv_M → tv_M → Bool
  | s :: ss, t :: ts => match L[t.2.1]? with
    | some b => (match (cond (tv_eq s.1 t.1 && !(tv_eq s.1 0) && Nat.beq b.1 1 && Nat.beq b.2.1 s.2.1 && (tv_eq s.1 1 || tv_eq s.1 (-1)))
          (some (s.1 * b.2.2 + t.2.2 - s.2.2, s.1 * b.2.2 + t.2.2 - s.2.2))
          (match tv_tm E (1, s.2.1, 0) s.1 s.2.2, tv_tm E b t.1 t.2.2 with
            | some S1, some T1 => some (T1.1 - S1.2, T1.2 - S1.1)
            | _, _ => none)) with
      | some D => cond (tv_le (D.2 + 1) 0) true (tv_eq D.1 0 && tv_eq D.2 0 && tv_lex E L ss ts)
      | none => false)
    | none => false
  | _, _ => false
def tv_hd (hs : List tv_H) (pc : Nat) : Option tv_H := hs.find? (fun h => Nat.beq h.1 pc)
/-- an edge to a head: types and measure -/
def tv_edge (src : Option tv_M) (E : tv_E) (L : List tv_A) (h : tv_H) : Bool := tv_gT h.2.1 L E && (match src with
  | none => true
  | some m => tv_lex E L m h.2.2)
def tv_run (T : tv_TT) (cx : Nat → List tv_C) (c : tv_C) (src : Option tv_M) : Nat → tv_rc
  | 0 => fun _ _ _ _ _ => false
  | f + 1 => fun pc E L S F => tv_step T cx c (fun pc E L S F => match tv_hd c.2.2.1 pc with
      | some h => (match S with
        | [] => tv_edge src E L h
        | _ => false)
      | none => tv_run T cx c src f pc E L S F) pc E L S F
def tv_E0 : List tv_T → tv_E
  | [] => [(0, 0)]
  | t :: ts => cond (Nat.beq t.1 1) (t.2.1, t.2.2) (0, 0) :: tv_E0 ts
def tv_L1 (t : tv_T) (i : Nat) : tv_A := match t with
  | (1, _, _) => (1, i, 0)
  | (2, _, _) => (2, 0, 0)
  | (3, lo, hi) => (3, lo.toNat, hi)
  | _ => (0, 0, 0)
def tv_L0 : List tv_T → Nat → List tv_A
  | [], _ => []
  | t :: ts, i => tv_L1 t i :: tv_L0 ts (i + 1)
/-- the types of the locals at the entry -/
def tv_en (n : Nat) : List tv_T → List tv_T
  | [] => List.replicate n (0, 0, 0)
  | t :: ts => cond (Nat.beq t.1 2) ((2, 0, 0) :: (0, 0, 0) :: tv_en (n - 2) ts) (t :: tv_en (n - 1) ts)
def tv_tok (t : tv_T) : Bool := match t with
  | (3, lo, _) => tv_le 0 lo
  | _ => true
def tv_mok (h : tv_H) : Bool := h.2.2.all (fun t => cond (tv_eq t.1 0) (tv_le 0 t.2.2) (match h.2.1[t.2.1]? with
  | some (1, lo, hi) => cond (tv_eq t.1 1) (tv_le 0 (lo + t.2.2)) (cond (tv_eq t.1 (-1)) (tv_le 0 (t.2.2 - hi)) false)
  | _ => false) && tv_le t.2.2 1099511627775) && Nat.beq h.2.2.length 5
/-- a context is right -/
def tv_ck (T : tv_TT) (cx : Nat → List tv_C) (f : Nat) (c : tv_C) : Bool :=
  c.2.1.all tv_tok && c.2.2.1.all (fun h => h.2.1.all tv_tok && tv_mok h && Nat.beq h.2.1.length (tt_n c.1)) && c.2.2.2.1.all (fun q => tv_rk (tt_r c.1) q.1 && tv_tok q.1 && q.2.all (fun w => (match (tv_po c.2.1 0)[w.1]? with
    | some i => tv_kp c.1 i
    | none => false) && (match c.2.1[w.1]? with
    | some t => Nat.beq t.1 1
    | none => false))) &&
  Nat.beq (tv_en (tt_n c.1) c.2.1).length (tt_n c.1) && tv_run T cx c none f 0 (tv_E0 (tv_en (tt_n c.1) c.2.1)) (tv_L0 (tv_en (tt_n c.1) c.2.1) 0) [] [] &&
  c.2.2.1.all (fun h => tv_run T cx c (some h.2.2) f h.1 (tv_E0 h.2.1) (tv_L0 h.2.1 0) [] [])
