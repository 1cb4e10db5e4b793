/-! ===== what a coded instruction stands for: checked against decode and the words ===== -/
def tb_w (k : Nat) (w : Cond) : Bool := decide (lw_tbl[k]? = some w) && goodWord w
def tb_ldi (k n : Nat) : Instr → Bool
  | .iload a => a == k && n == 2
  | .iload_n a => a.val == k && n == 1
  | _ => false
def tb_ldl (k n : Nat) : Instr → Bool
  | .lload a => a == k && n == 2
  | .lload_n a => a.val == k && n == 1
  | _ => false
def tb_lda (k n : Nat) : Instr → Bool
  | .aload a => a == k && n == 2
  | .aload_n a => a.val == k && n == 1
  | _ => false
def tb_sti (k n nL : Nat) : Instr → Bool
  | .istore a => a == k && n == 2 && Nat.blt k nL
  | .istore_n a => a.val == k && n == 1 && Nat.blt k nL
  | _ => false
def tb_stl (k n nL : Nat) : Instr → Bool
  | .lstore a => a == k && n == 2 && Nat.blt (k + 1) nL
  | .lstore_n a => a.val == k && n == 1 && Nat.blt (k + 1) nL
  | _ => false
def tb_sta (k n nL : Nat) : Instr → Bool
  | .astore a => a == k && n == 2 && Nat.blt k nL
  | .astore_n a => a.val == k && n == 1 && Nat.blt k nL
  | _ => false
def tb_inc (k : Nat) (z : Int) (n nL : Nat) : Instr → Bool
  | .iinc a b => a == k && b == z && n == 3 && Nat.blt k nL
  | _ => false
def tb_con (own : String) (k : Nat) (z : Int) (n : Nat) : Instr → Bool
  | .iconst a => a == z && n == 1
  | .bipush a => (Int8.ofInt a).toInt32 == Int32.ofInt z && n == 2
  | .sipush a => (Int16.ofInt a).toInt32 == Int32.ofInt z && n == 3
  | .ldc a => tb_w k (.constant own a (Int32.ofInt z)) && n == 2
  | .ldc_w a => tb_w k (.constant own a (Int32.ofInt z)) && n == 3
  | _ => false
def tb_lco (own : String) (k : Nat) (z : Int) (n : Nat) : Instr → Bool
  | .lconst a => Int64.ofNat a.val == Int64.ofInt z && n == 1
  | .ldc2_w a => tb_w k (.constantLong own a (Int64.ofInt z)) && n == 3
  | _ => false
def tb_ib (o n : Nat) : Instr → Bool
  | .iadd => o == 0 && n == 1
  | .isub => o == 1 && n == 1
  | .imul => o == 2 && n == 1
  | .iand => o == 3 && n == 1
  | .ior => o == 4 && n == 1
  | .ixor => o == 5 && n == 1
  | .ishl => o == 6 && n == 1
  | .ishr => o == 7 && n == 1
  | .iushr => o == 8 && n == 1
  | _ => false
def tb_lb (o n : Nat) : Instr → Bool
  | .ladd => o == 0 && n == 1
  | .lsub => o == 1 && n == 1
  | .lmul => o == 2 && n == 1
  | .land => o == 3 && n == 1
  | .lor => o == 4 && n == 1
  | .lxor => o == 5 && n == 1
  | _ => false
def tb_ls (o n : Nat) : Instr → Bool
  | .lshl => o == 0 && n == 1
  | .lshr => o == 1 && n == 1
  | .lushr => o == 2 && n == 1
  | _ => false
def tb_cv (o n : Nat) : Instr → Bool
  | .i2l => o == 0 && n == 1
  | .l2i => o == 1 && n == 1
  | .i2c => o == 2 && n == 1
  | .i2b => o == 3 && n == 1
  | _ => false
def tb_div (n : Nat) : Instr → Bool
  | .idiv => n == 1
  | _ => false
def tb_rem (n : Nat) : Instr → Bool
  | .irem => n == 1
  | _ => false
def tb_neg (n : Nat) : Instr → Bool
  | .ineg => n == 1
  | _ => false
def tb_cmp (n : Nat) : Instr → Bool
  | .lcmp => n == 1
  | _ => false
def tb_dup (n : Nat) : Instr → Bool
  | .dup => n == 1
  | _ => false
def tb_pop (n : Nat) : Instr → Bool
  | .pop => n == 1
  | _ => false
def tb_len (n : Nat) : Instr → Bool
  | .arraylength => n == 1
  | _ => false
def tb_ald (o n : Nat) : Instr → Bool
  | .iaload => o == 0 && n == 1
  | .laload => o == 1 && n == 1
  | .baload => o == 2 && n == 1
  | .aaload => o == 3 && n == 1
  | _ => false
def tb_ast (o n : Nat) : Instr → Bool
  | .iastore => o == 0 && n == 1
  | .lastore => o == 1 && n == 1
  | .bastore => o == 2 && n == 1
  | _ => false
def tb_fl (own : String) (a b idx : Nat) : Bool := match tt_cl[a / 64]? with
  | some q => Nat.blt (a % 64) q.2.2 && tb_w b (.fieldLink own idx (q.2.1 (a % 64)).1 (q.2.1 (a % 64)).2.1 (q.2.1 (a % 64)).2.2.1)
  | none => false
def tb_get (own : String) (a b n : Nat) : Instr → Bool
  | .getfield idx => n == 3 && tb_fl own a b idx
  | _ => false
def tb_fin (a : Nat) : Bool := match tt_cl[a / 64]? with
  | some q => !(q.2.1 (a % 64)).2.2.2
  | none => false
def tb_put (own : String) (a b n : Nat) : Instr → Bool
  | .putfield idx => n == 3 && tb_fl own a b idx && tb_fin a
  | _ => false
def tb_go (pc t n : Nat) : Instr → Bool
  | .goto off => n == 3 && (pc : Int) + off == (t : Int)
  | _ => false
def tb_cd : ClassFile.Cond → Int
  | .eq => 0
  | .ne => 1
  | .lt => 2
  | .ge => 3
  | .gt => 4
  | .le => 5
def tb_if (pc t : Nat) (z : Int) (n : Nat) : Instr → Bool
  | .ifCond c off => n == 3 && (pc : Int) + off == (t : Int) && tb_cd c == z
  | _ => false
def tb_ic (pc t : Nat) (z : Int) (n : Nat) : Instr → Bool
  | .if_icmp c off => n == 3 && (pc : Int) + off == (t : Int) && tb_cd c == z
  | _ => false
def tb_ac (pc t : Nat) (z : Int) (n : Nat) : Instr → Bool
  | .if_acmp .eq off => n == 3 && (pc : Int) + off == (t : Int) && z == 0
  | .if_acmp .ne off => n == 3 && (pc : Int) + off == (t : Int) && z == 1
  | _ => false
/-- the switch: where a key goes -/
def tb_sw (l : List (Int × Nat)) (a : Nat) (x : Int) : Nat := match l with
  | [] => a
  | q :: t => if q.1 = x then q.2 else tb_sw t a x
def tb_tb (pc : Nat) : Int → List Int → List (Int × Nat) → Bool
  | _, [], [] => true
  | k, o :: os, q :: qs => q.1 == k && (pc : Int) + o == (q.2 : Int) && tb_tb pc (k + 1) os qs
  | _, _, _ => false
def tb_lk (pc : Nat) : List (Int × Int) → List (Int × Nat) → Bool
  | [], [] => true
  | o :: os, q :: qs => q.1 == o.1 && (pc : Int) + o.2 == (q.2 : Int) && tb_lk pc os qs
  | _, _ => false
def tb_swi (pc a : Nat) (l : List (Int × Nat)) : Instr → Bool
  | .tableswitch d lo hi offs => (pc : Int) + d == (a : Int) && hi == lo + (offs.size : Int) - 1 && tb_tb pc lo offs.toList l
  | .lookupswitch d ps => (pc : Int) + d == (a : Int) && (ps.toList.zip (ps.toList.drop 1)).all (fun (a, next) => a.1 < next.1) && tb_lk pc ps.toList l
  | _ => false
def tb_isO : Option FieldType → Bool
  | some (.object _) => true
  | some (.array _) => true
  | _ => false
def tb_ret (r : Option FieldType) (o n : Nat) : Instr → Bool
  | .return_ => o == 0 && n == 1 && decide (r = none)
  | .ireturn => o == 1 && n == 1 && (decide (r = some .int) || decide (r = some .boolean) || decide (r = some .char) || decide (r = some .byte))
  | .lreturn => o == 2 && n == 1 && decide (r = some .long)
  | .areturn => o == 3 && n == 1 && tb_isO r
  | _ => false
def tb_cal (own : String) (j' b n : Nat) : Instr → Bool
  | .invokestatic idx => n == 3 && Nat.blt j' tt_NM && tt_s j' && ((b % 4 == 0 && tb_w (b / 4) (.methodLink own idx (tt_y j'))) || (b % 4 == 2 && decide (lw_tbl[b / 4]? = some (Cond.methodLinkNest own idx (tt_y j') "ToneHouse"))))
  | .invokevirtual idx => n == 3 && Nat.blt j' tt_NM && !tt_s j' && ((b % 4 == 1 && tb_w (b / 4) (.methodLink own idx (tt_y j'))) || (b % 4 == 3 && decide (lw_tbl[b / 4]? = some (Cond.methodLinkNest own idx (tt_y j') "ToneHouse"))))
  | _ => false
def tb_gsE (own : String) (a b n : Nat) : Instr → Bool
  | .getstatic idx => n == 3 && Nat.ble tt_EN a && Nat.blt (a - tt_EN) 9 && tb_w b (.fieldLink own idx "ToneHouse$Token" (tt_tok.getD (a - tt_EN) "") "LToneHouse$Token;")
  | _ => false
def tb_gsC (own : String) (a b n : Nat) : Instr → Bool
  | .getstatic idx => n == 3 && ((a == 0 && tb_w b (.fieldLink own idx "java/lang/String" "COMPACT_STRINGS" "Z")) || (a == 1 && tb_w b (.fieldLink own idx "jdk/internal/util/Preconditions" "SIOOBE_FORMATTER" "Ljava/util/function/BiFunction;")))
  | _ => false
def tb_str (own : String) (a : Nat) (z : Int) (n : Nat) : Instr → Bool
  | .ldc idx => n == 2 && (idx : Int) == z && tt_ldc.any (fun q => q.1 == own && q.2.1 == idx && q.2.2.2 == a)
  | _ => false
def tb_cpy (own : String) (b n : Nat) : Instr → Bool
  | .invokestatic idx => n == 3 && tb_w b (.methodLink own idx arraycopyName)
  | _ => false
def tb_mth (own : String) (a b n : Nat) : Instr → Bool
  | .invokestatic idx => n == 3 && ((a == 0 && tb_w b (.methodLink own idx Lib.Math.abs.name)) || ((a == 1 && tb_w b (.methodLink own idx Lib.Math.min.name)) || (a == 2 && tb_w b (.methodLink own idx Lib.Math.max.name))))
  | _ => false
def tb_sf (own : String) (a b n : Nat) : Instr → Bool
  | .getfield idx => n == 3 && ((a == 0 && tb_w b (.fieldLink own idx "java/lang/String" "value" "[B")) || (a == 1 && tb_w b (.fieldLink own idx "java/lang/String" "coder" "B")))
  | _ => false
def tb_i (j pc : Nat) (o : tt_Op) (n : Nat) (i : Instr) : Bool := match o.1 with
  | 0 => tb_ldi o.2.1 n i
  | 1 => tb_ldl o.2.1 n i
  | 2 => tb_lda o.2.1 n i
  | 3 => tb_sti o.2.1 n (tt_n j) i
  | 4 => tb_stl o.2.1 n (tt_n j) i
  | 5 => tb_sta o.2.1 n (tt_n j) i
  | 6 => tb_inc o.2.1 o.2.2.1 n (tt_n j) i
  | 7 => tb_con (tt_y j).cls o.2.1 o.2.2.1 n i
  | 8 => tb_lco (tt_y j).cls o.2.1 o.2.2.1 n i
  | 9 => tb_ib o.2.1 n i
  | 10 => tb_div n i
  | 11 => tb_rem n i
  | 12 => tb_neg n i
  | 13 => tb_lb o.2.1 n i
  | 14 => tb_ls o.2.1 n i
  | 15 => tb_cmp n i
  | 16 => tb_cv o.2.1 n i
  | 17 => tb_dup n i
  | 18 => tb_pop n i
  | 19 => tb_get (tt_y j).cls o.2.1 o.2.2.1.toNat n i
  | 20 => tb_put (tt_y j).cls o.2.1 o.2.2.1.toNat n i
  | 21 => tb_ald o.2.1 n i
  | 22 => tb_ast o.2.1 n i
  | 23 => tb_len n i
  | 24 => tb_go pc o.2.1 n i
  | 25 => tb_if pc o.2.1 o.2.2.1 n i
  | 26 => tb_ic pc o.2.1 o.2.2.1 n i
  | 27 => tb_ac pc o.2.1 o.2.2.1 n i
  | 28 => tb_swi pc o.2.1 o.2.2.2 i
  | 29 => tb_ret (tt_r j) o.2.1 n i
  | 30 => tb_cal (tt_y j).cls o.2.1 o.2.2.1.toNat n i
  | 31 => tb_gsE (tt_y j).cls o.2.1 o.2.2.1.toNat n i
  | 32 => tb_gsC (tt_y j).cls o.2.1 o.2.2.1.toNat n i
  | 33 => tb_str (tt_y j).cls o.2.1 o.2.2.1 n i
  | 34 => tb_cpy (tt_y j).cls o.2.2.1.toNat n i
  | 36 => tb_mth (tt_y j).cls o.2.1 o.2.2.1.toNat n i
  | 35 => tb_sf (tt_y j).cls o.2.1 o.2.2.1.toNat n i
  | _ => false
def tb_q (j : Nat) (q : Nat × tt_Op × Nat) : Bool := match decode (tt_c j) q.1 with
  | .ok (i, n) => n == q.2.2 && tb_i j q.1 q.2.1 n i
  | _ => false
/-- a method's own rows: its code, its kind, its words -/
def tb_m (j : Nat) : Bool := plainName (tt_y j).cls && decide ((tt_y j).cls ≠ "java/lang/invoke/MethodHandle") && decide ((tt_y j).cls ≠ "java/lang/invoke/VarHandle") &&
  decide ((parseMethodDescriptor (tt_y j).desc).map (fun d => d.parameters.length) = some (tt_p j)) && Nat.ble (tt_n j) 40 &&
  tb_w ((tt_h j).getD 0 0) (.code (tt_y j) (tt_c j) (tt_n j) (tt_r j)) && tb_w ((tt_h j).getD 3 0) (.initialized (tt_y j).cls) &&
  cond (tt_s j) (tb_w ((tt_h j).getD 1 0) (.static (tt_y j))) (tb_w ((tt_h j).getD 1 0) (.instanceMethod (tt_y j)) && tb_w ((tt_h j).getD 2 0) (.selects (tt_y j).cls (tt_y j) (tt_y j)))
