/-! ===== leadings: what both answer ===== -/
theorem tl_zk : (List.range 4096).all (fun r => Nat.beq r 0 || decide ((nI r ^^^ (-1)) &&& (nI r - 1) = nI (2 ^ tl_low r 12 - 1))) = true := by decide +kernel
theorem tl_z {r : Nat} (h : r < 4096) (h0 : ¬ r = 0) : (nI r ^^^ (-1)) &&& (nI r - 1) = nI (2 ^ tl_low r 12 - 1) := by
  have h1 := List.all_eq_true.mp tl_zk r (List.mem_range.mpr h)
  rw [Bool.or_eq_true] at h1
  rcases h1 with h1 | h1
  · exact absurd (Nat.eq_of_beq_eq_true h1) h0
  · exact of_decide_eq_true h1
set_option maxRecDepth 100000 in
set_option maxHeartbeats 4000000 in
theorem tl_ntz {d r : Nat} {σ : tm_S} (h : r < 4096) (h0 : ¬ r = 0) : WM d 39 [.int (nI r)] σ (th_is (.int (nI (tl_low r 12))) σ) := by
  have hl := (tl_lw h h0).2.1
  have k7 : ∀ (L : Nat) (v : Int32), L < 12 → WP d 39 7 [(0, .int v)] [.int (nI (2 ^ L - 1))] σ (th_is (.int (nI L)) σ) := by
    intro L v hL
    match L, hL with
    | 0, _ =>
      refine wq_sti [(0, .int (nI (2 ^ 0 - 1)))] rfl rfl ?_
      refine wp_ldi rfl tm_m0 ?_
      refine wq_ifgt rfl (fun h9 => absurd h9 (by decide)) (fun h9 => ?_)
      refine wp_ldi rfl tm_m0 ?_
      refine wq_con (x := 32) rfl (by decide) ?_
      refine wq_iand rfl ?_
      exact wp_reti rfl (th_nI rfl) ⟨congrArg (fun x => some (Value.int x)) (by decide), rfl⟩
    | 1, _ =>
      refine wq_sti [(0, .int (nI (2 ^ 1 - 1)))] rfl rfl ?_
      refine wp_ldi rfl tm_m0 ?_
      refine wq_ifgt rfl (fun h9 => ?_) (fun h9 => absurd (by decide) h9)
      refine wq_con (x := 1) rfl (by decide) ?_
      refine wq_sti [(1, .int 1), (0, .int (nI (2 ^ 1 - 1)))] rfl rfl ?_
      refine wp_ldi rfl tm_m1 ?_
      refine wq_con (x := 65536) rfl (by decide) ?_
      refine wq_icle rfl (fun h23 => ?_) (fun h23 => absurd (by decide) h23)
      refine wp_ldi rfl tm_m1 ?_
      refine wq_con (x := 256) rfl (by decide) ?_
      refine wq_icle rfl (fun h38 => ?_) (fun h38 => absurd (by decide) h38)
      refine wp_ldi rfl tm_m1 ?_
      refine wq_con (x := 16) rfl (by decide) ?_
      refine wq_icle rfl (fun h52 => ?_) (fun h52 => absurd (by decide) h52)
      refine wp_ldi rfl tm_m1 ?_
      refine wq_con (x := 4) rfl (by decide) ?_
      refine wq_icle rfl (fun h64 => ?_) (fun h64 => absurd (by decide) h64)
      refine wp_ldi rfl tm_m0 ?_
      refine wp_ldi rfl tm_m1 ?_
      refine wq_con (x := 1) rfl (by decide) ?_
      refine wq_iushr rfl ?_
      refine wq_iadd rfl ?_
      exact wp_reti rfl (th_nI rfl) ⟨congrArg (fun x => some (Value.int x)) (by decide), rfl⟩
    | 2, _ =>
      refine wq_sti [(0, .int (nI (2 ^ 2 - 1)))] rfl rfl ?_
      refine wp_ldi rfl tm_m0 ?_
      refine wq_ifgt rfl (fun h9 => ?_) (fun h9 => absurd (by decide) h9)
      refine wq_con (x := 1) rfl (by decide) ?_
      refine wq_sti [(1, .int 1), (0, .int (nI (2 ^ 2 - 1)))] rfl rfl ?_
      refine wp_ldi rfl tm_m1 ?_
      refine wq_con (x := 65536) rfl (by decide) ?_
      refine wq_icle rfl (fun h23 => ?_) (fun h23 => absurd (by decide) h23)
      refine wp_ldi rfl tm_m1 ?_
      refine wq_con (x := 256) rfl (by decide) ?_
      refine wq_icle rfl (fun h38 => ?_) (fun h38 => absurd (by decide) h38)
      refine wp_ldi rfl tm_m1 ?_
      refine wq_con (x := 16) rfl (by decide) ?_
      refine wq_icle rfl (fun h52 => ?_) (fun h52 => absurd (by decide) h52)
      refine wp_ldi rfl tm_m1 ?_
      refine wq_con (x := 4) rfl (by decide) ?_
      refine wq_icle rfl (fun h64 => ?_) (fun h64 => absurd (by decide) h64)
      refine wp_ldi rfl tm_m0 ?_
      refine wp_ldi rfl tm_m1 ?_
      refine wq_con (x := 1) rfl (by decide) ?_
      refine wq_iushr rfl ?_
      refine wq_iadd rfl ?_
      exact wp_reti rfl (th_nI rfl) ⟨congrArg (fun x => some (Value.int x)) (by decide), rfl⟩
    | 3, _ =>
      refine wq_sti [(0, .int (nI (2 ^ 3 - 1)))] rfl rfl ?_
      refine wp_ldi rfl tm_m0 ?_
      refine wq_ifgt rfl (fun h9 => ?_) (fun h9 => absurd (by decide) h9)
      refine wq_con (x := 1) rfl (by decide) ?_
      refine wq_sti [(1, .int 1), (0, .int (nI (2 ^ 3 - 1)))] rfl rfl ?_
      refine wp_ldi rfl tm_m1 ?_
      refine wq_con (x := 65536) rfl (by decide) ?_
      refine wq_icle rfl (fun h23 => ?_) (fun h23 => absurd (by decide) h23)
      refine wp_ldi rfl tm_m1 ?_
      refine wq_con (x := 256) rfl (by decide) ?_
      refine wq_icle rfl (fun h38 => ?_) (fun h38 => absurd (by decide) h38)
      refine wp_ldi rfl tm_m1 ?_
      refine wq_con (x := 16) rfl (by decide) ?_
      refine wq_icle rfl (fun h52 => ?_) (fun h52 => absurd (by decide) h52)
      refine wp_ldi rfl tm_m1 ?_
      refine wq_con (x := 4) rfl (by decide) ?_
      refine wq_icle rfl (fun h64 => absurd h64 (by decide)) (fun h64 => ?_)
      refine wq_inc (c := 2) [(1, .int (1 + 2)), (0, .int (nI (2 ^ 3 - 1)))] rfl tm_m0 rfl rfl ?_
      refine wp_ldi rfl tm_m1 ?_
      refine wq_con (x := 2) rfl (by decide) ?_
      refine wq_iushr rfl ?_
      refine wq_sti [(0, .int ((((nI (2 ^ 3 - 1)) : Int32).toUInt32 >>> ((2 : Int32).toUInt32 &&& Int32.toUInt32 31)).toInt32)), (1, .int (1 + 2))] rfl rfl ?_
      refine wp_ldi rfl tm_m1 ?_
      refine wp_ldi rfl tm_m0 ?_
      refine wq_con (x := 1) rfl (by decide) ?_
      refine wq_iushr rfl ?_
      refine wq_iadd rfl ?_
      exact wp_reti rfl (th_nI rfl) ⟨congrArg (fun x => some (Value.int x)) (by decide), rfl⟩
    | 4, _ =>
      refine wq_sti [(0, .int (nI (2 ^ 4 - 1)))] rfl rfl ?_
      refine wp_ldi rfl tm_m0 ?_
      refine wq_ifgt rfl (fun h9 => ?_) (fun h9 => absurd (by decide) h9)
      refine wq_con (x := 1) rfl (by decide) ?_
      refine wq_sti [(1, .int 1), (0, .int (nI (2 ^ 4 - 1)))] rfl rfl ?_
      refine wp_ldi rfl tm_m1 ?_
      refine wq_con (x := 65536) rfl (by decide) ?_
      refine wq_icle rfl (fun h23 => ?_) (fun h23 => absurd (by decide) h23)
      refine wp_ldi rfl tm_m1 ?_
      refine wq_con (x := 256) rfl (by decide) ?_
      refine wq_icle rfl (fun h38 => ?_) (fun h38 => absurd (by decide) h38)
      refine wp_ldi rfl tm_m1 ?_
      refine wq_con (x := 16) rfl (by decide) ?_
      refine wq_icle rfl (fun h52 => ?_) (fun h52 => absurd (by decide) h52)
      refine wp_ldi rfl tm_m1 ?_
      refine wq_con (x := 4) rfl (by decide) ?_
      refine wq_icle rfl (fun h64 => absurd h64 (by decide)) (fun h64 => ?_)
      refine wq_inc (c := 2) [(1, .int (1 + 2)), (0, .int (nI (2 ^ 4 - 1)))] rfl tm_m0 rfl rfl ?_
      refine wp_ldi rfl tm_m1 ?_
      refine wq_con (x := 2) rfl (by decide) ?_
      refine wq_iushr rfl ?_
      refine wq_sti [(0, .int ((((nI (2 ^ 4 - 1)) : Int32).toUInt32 >>> ((2 : Int32).toUInt32 &&& Int32.toUInt32 31)).toInt32)), (1, .int (1 + 2))] rfl rfl ?_
      refine wp_ldi rfl tm_m1 ?_
      refine wp_ldi rfl tm_m0 ?_
      refine wq_con (x := 1) rfl (by decide) ?_
      refine wq_iushr rfl ?_
      refine wq_iadd rfl ?_
      exact wp_reti rfl (th_nI rfl) ⟨congrArg (fun x => some (Value.int x)) (by decide), rfl⟩
    | 5, _ =>
      refine wq_sti [(0, .int (nI (2 ^ 5 - 1)))] rfl rfl ?_
      refine wp_ldi rfl tm_m0 ?_
      refine wq_ifgt rfl (fun h9 => ?_) (fun h9 => absurd (by decide) h9)
      refine wq_con (x := 1) rfl (by decide) ?_
      refine wq_sti [(1, .int 1), (0, .int (nI (2 ^ 5 - 1)))] rfl rfl ?_
      refine wp_ldi rfl tm_m1 ?_
      refine wq_con (x := 65536) rfl (by decide) ?_
      refine wq_icle rfl (fun h23 => ?_) (fun h23 => absurd (by decide) h23)
      refine wp_ldi rfl tm_m1 ?_
      refine wq_con (x := 256) rfl (by decide) ?_
      refine wq_icle rfl (fun h38 => ?_) (fun h38 => absurd (by decide) h38)
      refine wp_ldi rfl tm_m1 ?_
      refine wq_con (x := 16) rfl (by decide) ?_
      refine wq_icle rfl (fun h52 => absurd h52 (by decide)) (fun h52 => ?_)
      refine wq_inc (c := 4) [(1, .int (1 + 4)), (0, .int (nI (2 ^ 5 - 1)))] rfl tm_m0 rfl rfl ?_
      refine wp_ldi rfl tm_m1 ?_
      refine wq_con (x := 4) rfl (by decide) ?_
      refine wq_iushr rfl ?_
      refine wq_sti [(0, .int ((((nI (2 ^ 5 - 1)) : Int32).toUInt32 >>> ((4 : Int32).toUInt32 &&& Int32.toUInt32 31)).toInt32)), (1, .int (1 + 4))] rfl rfl ?_
      refine wp_ldi rfl tm_m0 ?_
      refine wq_con (x := 4) rfl (by decide) ?_
      refine wq_icle rfl (fun h64 => ?_) (fun h64 => absurd (by decide) h64)
      refine wp_ldi rfl tm_m1 ?_
      refine wp_ldi rfl tm_m0 ?_
      refine wq_con (x := 1) rfl (by decide) ?_
      refine wq_iushr rfl ?_
      refine wq_iadd rfl ?_
      exact wp_reti rfl (th_nI rfl) ⟨congrArg (fun x => some (Value.int x)) (by decide), rfl⟩
    | 6, _ =>
      refine wq_sti [(0, .int (nI (2 ^ 6 - 1)))] rfl rfl ?_
      refine wp_ldi rfl tm_m0 ?_
      refine wq_ifgt rfl (fun h9 => ?_) (fun h9 => absurd (by decide) h9)
      refine wq_con (x := 1) rfl (by decide) ?_
      refine wq_sti [(1, .int 1), (0, .int (nI (2 ^ 6 - 1)))] rfl rfl ?_
      refine wp_ldi rfl tm_m1 ?_
      refine wq_con (x := 65536) rfl (by decide) ?_
      refine wq_icle rfl (fun h23 => ?_) (fun h23 => absurd (by decide) h23)
      refine wp_ldi rfl tm_m1 ?_
      refine wq_con (x := 256) rfl (by decide) ?_
      refine wq_icle rfl (fun h38 => ?_) (fun h38 => absurd (by decide) h38)
      refine wp_ldi rfl tm_m1 ?_
      refine wq_con (x := 16) rfl (by decide) ?_
      refine wq_icle rfl (fun h52 => absurd h52 (by decide)) (fun h52 => ?_)
      refine wq_inc (c := 4) [(1, .int (1 + 4)), (0, .int (nI (2 ^ 6 - 1)))] rfl tm_m0 rfl rfl ?_
      refine wp_ldi rfl tm_m1 ?_
      refine wq_con (x := 4) rfl (by decide) ?_
      refine wq_iushr rfl ?_
      refine wq_sti [(0, .int ((((nI (2 ^ 6 - 1)) : Int32).toUInt32 >>> ((4 : Int32).toUInt32 &&& Int32.toUInt32 31)).toInt32)), (1, .int (1 + 4))] rfl rfl ?_
      refine wp_ldi rfl tm_m0 ?_
      refine wq_con (x := 4) rfl (by decide) ?_
      refine wq_icle rfl (fun h64 => ?_) (fun h64 => absurd (by decide) h64)
      refine wp_ldi rfl tm_m1 ?_
      refine wp_ldi rfl tm_m0 ?_
      refine wq_con (x := 1) rfl (by decide) ?_
      refine wq_iushr rfl ?_
      refine wq_iadd rfl ?_
      exact wp_reti rfl (th_nI rfl) ⟨congrArg (fun x => some (Value.int x)) (by decide), rfl⟩
    | 7, _ =>
      refine wq_sti [(0, .int (nI (2 ^ 7 - 1)))] rfl rfl ?_
      refine wp_ldi rfl tm_m0 ?_
      refine wq_ifgt rfl (fun h9 => ?_) (fun h9 => absurd (by decide) h9)
      refine wq_con (x := 1) rfl (by decide) ?_
      refine wq_sti [(1, .int 1), (0, .int (nI (2 ^ 7 - 1)))] rfl rfl ?_
      refine wp_ldi rfl tm_m1 ?_
      refine wq_con (x := 65536) rfl (by decide) ?_
      refine wq_icle rfl (fun h23 => ?_) (fun h23 => absurd (by decide) h23)
      refine wp_ldi rfl tm_m1 ?_
      refine wq_con (x := 256) rfl (by decide) ?_
      refine wq_icle rfl (fun h38 => ?_) (fun h38 => absurd (by decide) h38)
      refine wp_ldi rfl tm_m1 ?_
      refine wq_con (x := 16) rfl (by decide) ?_
      refine wq_icle rfl (fun h52 => absurd h52 (by decide)) (fun h52 => ?_)
      refine wq_inc (c := 4) [(1, .int (1 + 4)), (0, .int (nI (2 ^ 7 - 1)))] rfl tm_m0 rfl rfl ?_
      refine wp_ldi rfl tm_m1 ?_
      refine wq_con (x := 4) rfl (by decide) ?_
      refine wq_iushr rfl ?_
      refine wq_sti [(0, .int ((((nI (2 ^ 7 - 1)) : Int32).toUInt32 >>> ((4 : Int32).toUInt32 &&& Int32.toUInt32 31)).toInt32)), (1, .int (1 + 4))] rfl rfl ?_
      refine wp_ldi rfl tm_m0 ?_
      refine wq_con (x := 4) rfl (by decide) ?_
      refine wq_icle rfl (fun h64 => absurd h64 (by decide)) (fun h64 => ?_)
      refine wq_inc (c := 2) [(1, .int ((1 + 4) + 2)), (0, .int ((((nI (2 ^ 7 - 1)) : Int32).toUInt32 >>> ((4 : Int32).toUInt32 &&& Int32.toUInt32 31)).toInt32))] rfl tm_m1 rfl rfl ?_
      refine wp_ldi rfl tm_m1 ?_
      refine wq_con (x := 2) rfl (by decide) ?_
      refine wq_iushr rfl ?_
      refine wq_sti [(0, .int (((((((nI (2 ^ 7 - 1)) : Int32).toUInt32 >>> ((4 : Int32).toUInt32 &&& Int32.toUInt32 31)).toInt32) : Int32).toUInt32 >>> ((2 : Int32).toUInt32 &&& Int32.toUInt32 31)).toInt32)), (1, .int ((1 + 4) + 2))] rfl rfl ?_
      refine wp_ldi rfl tm_m1 ?_
      refine wp_ldi rfl tm_m0 ?_
      refine wq_con (x := 1) rfl (by decide) ?_
      refine wq_iushr rfl ?_
      refine wq_iadd rfl ?_
      exact wp_reti rfl (th_nI rfl) ⟨congrArg (fun x => some (Value.int x)) (by decide), rfl⟩
    | 8, _ =>
      refine wq_sti [(0, .int (nI (2 ^ 8 - 1)))] rfl rfl ?_
      refine wp_ldi rfl tm_m0 ?_
      refine wq_ifgt rfl (fun h9 => ?_) (fun h9 => absurd (by decide) h9)
      refine wq_con (x := 1) rfl (by decide) ?_
      refine wq_sti [(1, .int 1), (0, .int (nI (2 ^ 8 - 1)))] rfl rfl ?_
      refine wp_ldi rfl tm_m1 ?_
      refine wq_con (x := 65536) rfl (by decide) ?_
      refine wq_icle rfl (fun h23 => ?_) (fun h23 => absurd (by decide) h23)
      refine wp_ldi rfl tm_m1 ?_
      refine wq_con (x := 256) rfl (by decide) ?_
      refine wq_icle rfl (fun h38 => ?_) (fun h38 => absurd (by decide) h38)
      refine wp_ldi rfl tm_m1 ?_
      refine wq_con (x := 16) rfl (by decide) ?_
      refine wq_icle rfl (fun h52 => absurd h52 (by decide)) (fun h52 => ?_)
      refine wq_inc (c := 4) [(1, .int (1 + 4)), (0, .int (nI (2 ^ 8 - 1)))] rfl tm_m0 rfl rfl ?_
      refine wp_ldi rfl tm_m1 ?_
      refine wq_con (x := 4) rfl (by decide) ?_
      refine wq_iushr rfl ?_
      refine wq_sti [(0, .int ((((nI (2 ^ 8 - 1)) : Int32).toUInt32 >>> ((4 : Int32).toUInt32 &&& Int32.toUInt32 31)).toInt32)), (1, .int (1 + 4))] rfl rfl ?_
      refine wp_ldi rfl tm_m0 ?_
      refine wq_con (x := 4) rfl (by decide) ?_
      refine wq_icle rfl (fun h64 => absurd h64 (by decide)) (fun h64 => ?_)
      refine wq_inc (c := 2) [(1, .int ((1 + 4) + 2)), (0, .int ((((nI (2 ^ 8 - 1)) : Int32).toUInt32 >>> ((4 : Int32).toUInt32 &&& Int32.toUInt32 31)).toInt32))] rfl tm_m1 rfl rfl ?_
      refine wp_ldi rfl tm_m1 ?_
      refine wq_con (x := 2) rfl (by decide) ?_
      refine wq_iushr rfl ?_
      refine wq_sti [(0, .int (((((((nI (2 ^ 8 - 1)) : Int32).toUInt32 >>> ((4 : Int32).toUInt32 &&& Int32.toUInt32 31)).toInt32) : Int32).toUInt32 >>> ((2 : Int32).toUInt32 &&& Int32.toUInt32 31)).toInt32)), (1, .int ((1 + 4) + 2))] rfl rfl ?_
      refine wp_ldi rfl tm_m1 ?_
      refine wp_ldi rfl tm_m0 ?_
      refine wq_con (x := 1) rfl (by decide) ?_
      refine wq_iushr rfl ?_
      refine wq_iadd rfl ?_
      exact wp_reti rfl (th_nI rfl) ⟨congrArg (fun x => some (Value.int x)) (by decide), rfl⟩
    | 9, _ =>
      refine wq_sti [(0, .int (nI (2 ^ 9 - 1)))] rfl rfl ?_
      refine wp_ldi rfl tm_m0 ?_
      refine wq_ifgt rfl (fun h9 => ?_) (fun h9 => absurd (by decide) h9)
      refine wq_con (x := 1) rfl (by decide) ?_
      refine wq_sti [(1, .int 1), (0, .int (nI (2 ^ 9 - 1)))] rfl rfl ?_
      refine wp_ldi rfl tm_m1 ?_
      refine wq_con (x := 65536) rfl (by decide) ?_
      refine wq_icle rfl (fun h23 => ?_) (fun h23 => absurd (by decide) h23)
      refine wp_ldi rfl tm_m1 ?_
      refine wq_con (x := 256) rfl (by decide) ?_
      refine wq_icle rfl (fun h38 => absurd h38 (by decide)) (fun h38 => ?_)
      refine wq_inc (c := 8) [(1, .int (1 + 8)), (0, .int (nI (2 ^ 9 - 1)))] rfl tm_m0 rfl rfl ?_
      refine wp_ldi rfl tm_m1 ?_
      refine wq_con (x := 8) rfl (by decide) ?_
      refine wq_iushr rfl ?_
      refine wq_sti [(0, .int ((((nI (2 ^ 9 - 1)) : Int32).toUInt32 >>> ((8 : Int32).toUInt32 &&& Int32.toUInt32 31)).toInt32)), (1, .int (1 + 8))] rfl rfl ?_
      refine wp_ldi rfl tm_m0 ?_
      refine wq_con (x := 16) rfl (by decide) ?_
      refine wq_icle rfl (fun h52 => ?_) (fun h52 => absurd (by decide) h52)
      refine wp_ldi rfl tm_m0 ?_
      refine wq_con (x := 4) rfl (by decide) ?_
      refine wq_icle rfl (fun h64 => ?_) (fun h64 => absurd (by decide) h64)
      refine wp_ldi rfl tm_m1 ?_
      refine wp_ldi rfl tm_m0 ?_
      refine wq_con (x := 1) rfl (by decide) ?_
      refine wq_iushr rfl ?_
      refine wq_iadd rfl ?_
      exact wp_reti rfl (th_nI rfl) ⟨congrArg (fun x => some (Value.int x)) (by decide), rfl⟩
    | 10, _ =>
      refine wq_sti [(0, .int (nI (2 ^ 10 - 1)))] rfl rfl ?_
      refine wp_ldi rfl tm_m0 ?_
      refine wq_ifgt rfl (fun h9 => ?_) (fun h9 => absurd (by decide) h9)
      refine wq_con (x := 1) rfl (by decide) ?_
      refine wq_sti [(1, .int 1), (0, .int (nI (2 ^ 10 - 1)))] rfl rfl ?_
      refine wp_ldi rfl tm_m1 ?_
      refine wq_con (x := 65536) rfl (by decide) ?_
      refine wq_icle rfl (fun h23 => ?_) (fun h23 => absurd (by decide) h23)
      refine wp_ldi rfl tm_m1 ?_
      refine wq_con (x := 256) rfl (by decide) ?_
      refine wq_icle rfl (fun h38 => absurd h38 (by decide)) (fun h38 => ?_)
      refine wq_inc (c := 8) [(1, .int (1 + 8)), (0, .int (nI (2 ^ 10 - 1)))] rfl tm_m0 rfl rfl ?_
      refine wp_ldi rfl tm_m1 ?_
      refine wq_con (x := 8) rfl (by decide) ?_
      refine wq_iushr rfl ?_
      refine wq_sti [(0, .int ((((nI (2 ^ 10 - 1)) : Int32).toUInt32 >>> ((8 : Int32).toUInt32 &&& Int32.toUInt32 31)).toInt32)), (1, .int (1 + 8))] rfl rfl ?_
      refine wp_ldi rfl tm_m0 ?_
      refine wq_con (x := 16) rfl (by decide) ?_
      refine wq_icle rfl (fun h52 => ?_) (fun h52 => absurd (by decide) h52)
      refine wp_ldi rfl tm_m0 ?_
      refine wq_con (x := 4) rfl (by decide) ?_
      refine wq_icle rfl (fun h64 => ?_) (fun h64 => absurd (by decide) h64)
      refine wp_ldi rfl tm_m1 ?_
      refine wp_ldi rfl tm_m0 ?_
      refine wq_con (x := 1) rfl (by decide) ?_
      refine wq_iushr rfl ?_
      refine wq_iadd rfl ?_
      exact wp_reti rfl (th_nI rfl) ⟨congrArg (fun x => some (Value.int x)) (by decide), rfl⟩
    | 11, _ =>
      refine wq_sti [(0, .int (nI (2 ^ 11 - 1)))] rfl rfl ?_
      refine wp_ldi rfl tm_m0 ?_
      refine wq_ifgt rfl (fun h9 => ?_) (fun h9 => absurd (by decide) h9)
      refine wq_con (x := 1) rfl (by decide) ?_
      refine wq_sti [(1, .int 1), (0, .int (nI (2 ^ 11 - 1)))] rfl rfl ?_
      refine wp_ldi rfl tm_m1 ?_
      refine wq_con (x := 65536) rfl (by decide) ?_
      refine wq_icle rfl (fun h23 => ?_) (fun h23 => absurd (by decide) h23)
      refine wp_ldi rfl tm_m1 ?_
      refine wq_con (x := 256) rfl (by decide) ?_
      refine wq_icle rfl (fun h38 => absurd h38 (by decide)) (fun h38 => ?_)
      refine wq_inc (c := 8) [(1, .int (1 + 8)), (0, .int (nI (2 ^ 11 - 1)))] rfl tm_m0 rfl rfl ?_
      refine wp_ldi rfl tm_m1 ?_
      refine wq_con (x := 8) rfl (by decide) ?_
      refine wq_iushr rfl ?_
      refine wq_sti [(0, .int ((((nI (2 ^ 11 - 1)) : Int32).toUInt32 >>> ((8 : Int32).toUInt32 &&& Int32.toUInt32 31)).toInt32)), (1, .int (1 + 8))] rfl rfl ?_
      refine wp_ldi rfl tm_m0 ?_
      refine wq_con (x := 16) rfl (by decide) ?_
      refine wq_icle rfl (fun h52 => ?_) (fun h52 => absurd (by decide) h52)
      refine wp_ldi rfl tm_m0 ?_
      refine wq_con (x := 4) rfl (by decide) ?_
      refine wq_icle rfl (fun h64 => absurd h64 (by decide)) (fun h64 => ?_)
      refine wq_inc (c := 2) [(1, .int ((1 + 8) + 2)), (0, .int ((((nI (2 ^ 11 - 1)) : Int32).toUInt32 >>> ((8 : Int32).toUInt32 &&& Int32.toUInt32 31)).toInt32))] rfl tm_m1 rfl rfl ?_
      refine wp_ldi rfl tm_m1 ?_
      refine wq_con (x := 2) rfl (by decide) ?_
      refine wq_iushr rfl ?_
      refine wq_sti [(0, .int (((((((nI (2 ^ 11 - 1)) : Int32).toUInt32 >>> ((8 : Int32).toUInt32 &&& Int32.toUInt32 31)).toInt32) : Int32).toUInt32 >>> ((2 : Int32).toUInt32 &&& Int32.toUInt32 31)).toInt32)), (1, .int ((1 + 8) + 2))] rfl rfl ?_
      refine wp_ldi rfl tm_m1 ?_
      refine wp_ldi rfl tm_m0 ?_
      refine wq_con (x := 1) rfl (by decide) ?_
      refine wq_iushr rfl ?_
      refine wq_iadd rfl ?_
      exact wp_reti rfl (th_nI rfl) ⟨congrArg (fun x => some (Value.int x)) (by decide), rfl⟩
    | L + 12, hL => exact absurd hL (by omega)
  show WP d 39 0 [(0, .int (nI r))] [] σ _
  refine wp_ldi rfl tm_m0 ?_
  refine wq_con (x := (-1)) rfl (by decide) ?_
  refine wq_ixor rfl ?_
  refine wp_ldi rfl tm_m0 ?_
  refine wq_con (x := 1) rfl (by decide) ?_
  refine wq_isub rfl ?_
  refine wq_iand rfl ?_
  rw [tl_z h h0]
  exact k7 _ _ hl
set_option maxRecDepth 100000 in
set_option maxHeartbeats 4000000 in
theorem tl_lm {d r : Nat} {σ : tm_S} (h : r < 4096) (h0 : ¬ r = 0) : WM (d + 1) 38 [.int (nI r)] σ (th_is (.int (nI (tl_low r 12))) σ) := by
  show WP (d + 1) 38 0 [(0, .int (nI r))] [] σ _
  refine wp_ldi rfl tm_m0 ?_
  refine wq_cals [.int (nI r)] rfl rfl rfl rfl rfl rfl (tl_ntz h h0) ?_
  rintro _ _ ⟨rfl, rfl⟩
  exact wp_reti rfl (th_nI rfl) ⟨rfl, rfl⟩
set_option maxRecDepth 100000 in
set_option maxHeartbeats 4000000 in
theorem tl_wl {d r : Nat} {σ : tm_S} (h : r < 4096) (h0 : ¬ r = 0) : WM d 40 [.int (nI r)] σ (th_is (.int (nI (r &&& (r - 1)))) σ) := by
  have e1 : nI r - 1 = nI (r - 1) := by rw [show r = (r - 1) + 1 by omega]; exact nI_pred _
  show WP d 40 0 [(0, .int (nI r))] [] σ _
  refine wp_ldi rfl tm_m0 ?_
  refine wp_ldi rfl tm_m0 ?_
  refine wq_con (x := 1) rfl (by decide) ?_
  refine wq_isub rfl ?_
  rw [e1]
  refine wq_iand rfl ?_
  rw [th_and24 (by omega) (by omega)]
  exact wp_reti rfl (th_nI rfl) ⟨rfl, rfl⟩
def tl_F (n : Nat) (σ s : tm_S) : Prop := tv_TY (tc_T (n : Int)) s ∧ tv_un σ s [(2, 4), (2, 5), (18, 64), (19, 64), (20, 64), (21, 64)]
/-- f lists the first m members of S -/
def tl_M (S n m : Nat) (f : Nat → Int32) : Prop := ∀ i : Nat, i < m → ∃ x : Nat, x < n ∧ f i = nI x ∧ S.testBit x = true ∧ th_po S x = i
set_option maxRecDepth 100000 in
set_option maxHeartbeats 4000000 in
theorem tl_list20 {d n S : Nat} {σ s : tm_S} (F : tl_F n σ s) (hn : n ≤ 12) (hS : S < 2 ^ n) (hk : s.1 2 5 = nI (th_po S n)) : WM (d + 2) 37 [.ref 2, .int (nI S), .ref 20] s (fun q t => q = none ∧ tl_F n σ t ∧ tl_N S n (t.1 20) ∧ ∀ q2 : Nat, ¬ q2 = 20 → t.1 q2 = s.1 q2) := by
  have hp : 2 ^ n ≤ 4096 := Nat.pow_le_pow_right (n := 2) (by decide) hn
  have hle : th_po S n ≤ n := th_sm_le
  have k5 : ∀ (f i r : Nat) (t : tm_S), i + f = th_po S n → tl_R S i r → tl_F n σ t → tl_M S n i (t.1 20) → (∀ q2 : Nat, ¬ q2 = 20 → t.1 q2 = s.1 q2) → WP (d + 2) 37 5 [(4, .int (nI i)), (3, .int (nI r)), (0, .ref 2), (1, .int (nI S)), (2, .ref 20)] [] t (fun q t => q = none ∧ tl_F n σ t ∧ tl_N S n (t.1 20) ∧ ∀ q2 : Nat, ¬ q2 = 20 → t.1 q2 = s.1 q2) := by
    intro f
    induction f with
    | zero =>
      intro i r t hf hr Ft hM ho
      have ek : t.1 2 5 = nI (th_po S n) := by rw [ho 2 (by decide)]; exact hk
      obtain rfl : i = th_po S n := by omega
      refine wp_ldi rfl tm_m0 ?_
      refine wp_lda rfl tm_m2 ?_
      refine wq_geti rfl rfl (f := 5) rfl rfl (Or.inl rfl) ?_
      rw [ek]
      refine wq_icge rfl (fun h11 => ?_) (fun h11 => absurd (nI_le (Nat.le_refl _) (by omega)) h11)
      exact wp_retv rfl ⟨rfl, Ft, hM, ho⟩
    | succ f ih =>
      intro i r t hf hr Ft hM ho
      have ek : t.1 2 5 = nI (th_po S n) := by rw [ho 2 (by decide)]; exact hk
      obtain ⟨r1, r2, r3, r4, r5, r6⟩ := tl_R1 hn hS hr (by omega)
      have eL : (nI (tl_low r 12)).toInt = tl_low r 12 := nI_toInt (by omega)
      refine wp_ldi rfl tm_m0 ?_
      refine wp_lda rfl tm_m2 ?_
      refine wq_geti rfl rfl (f := 5) rfl rfl (Or.inl rfl) ?_
      rw [ek]
      refine wq_icge rfl (fun h11 => absurd h11 (nI_ge (by omega) (by omega))) (fun h11 => ?_)
      refine wp_ldi rfl tm_m0 ?_
      refine wp_lda rfl tm_m4 ?_
      refine wq_len (x := 12) rfl rfl (by decide) ?_
      refine wq_icge rfl (fun h18 => absurd h18 (nI_ge (b := 12) (by omega) (by decide))) (fun h18 => ?_)
      refine wp_lda rfl tm_m4 ?_
      refine wp_ldi rfl tm_m0 ?_
      refine wp_ldi rfl tm_m1 ?_
      refine wq_cals [.int (nI r)] rfl rfl rfl rfl rfl rfl (tl_lm r1 r2) ?_
      rintro _ _ ⟨rfl, rfl⟩
      refine wp_iast rfl rfl (nI_in (by omega) (by decide)) ?_
      refine wp_ldi rfl tm_m1 ?_
      refine wq_cals [.int (nI r)] rfl rfl rfl rfl rfl rfl (tl_wl r1 r2) ?_
      rintro _ _ ⟨rfl, rfl⟩
      refine wq_sti [(3, .int (nI (r &&& (r - 1)))), (4, .int (nI i)), (0, .ref 2), (1, .int (nI S)), (2, .ref 20)] rfl rfl ?_
      refine wq_inc (c := 1) [(4, .int ((nI i) + 1)), (3, .int (nI (r &&& (r - 1)))), (0, .ref 2), (1, .int (nI S)), (2, .ref 20)] rfl tm_m1 rfl rfl ?_
      refine wp_go rfl ?_
      rw [nI_1, nI_clamp (n := i) (by omega)]
      refine WP.less (ih (i + 1) _ _ (by omega) r6 ⟨tv_TY_row Ft.1 (ty := (0, 32)) (fun _ => rfl) (by rw [eL]; show (0 : Int) ≤ _; omega) (by rw [eL]; show _ ≤ (32 : Int); omega), tv_un_tr Ft.2 (tv_un_ar rfl rfl)⟩ (fun q hq => ?_) (fun q2 h2 => ?_)) (by simp)
      · by_cases e : q = i
        · subst e
          exact ⟨tl_low r 12, r3, by rw [tm_gI, if_pos ⟨rfl, rfl⟩], r4, r5⟩
        · obtain ⟨x, x1, x2, x3⟩ := hM q (by omega)
          exact ⟨x, x1, by rw [tm_gI, if_neg (fun z => e z.2)]; exact x2, x3⟩
      · rw [(tm_sI_ar (fun e => h2 e)).1]
        exact ho q2 h2
  show WP (d + 2) 37 0 [(0, .ref 2), (1, .int (nI S)), (2, .ref 20)] [] s _
  refine wp_ldi rfl tm_m1 ?_
  refine wq_sti [(3, .int (nI S)), (0, .ref 2), (1, .int (nI S)), (2, .ref 20)] rfl rfl ?_
  refine wq_con (x := nI 0) rfl (by decide) ?_
  refine wq_sti [(4, .int (nI 0)), (3, .int (nI S)), (0, .ref 2), (1, .int (nI S)), (2, .ref 20)] rfl rfl ?_
  exact WP.less (k5 (th_po S n) 0 S s (by omega) tl_R0 F (fun q hq => absurd hq (by omega)) (fun _ _ => rfl)) (by simp)
set_option maxRecDepth 100000 in
set_option maxHeartbeats 4000000 in
theorem tl_list21 {d n S : Nat} {σ s : tm_S} (F : tl_F n σ s) (hn : n ≤ 12) (hS : S < 2 ^ n) (hk : s.1 2 5 = nI (th_po S n)) : WM (d + 2) 37 [.ref 2, .int (nI S), .ref 21] s (fun q t => q = none ∧ tl_F n σ t ∧ tl_N S n (t.1 21) ∧ ∀ q2 : Nat, ¬ q2 = 21 → t.1 q2 = s.1 q2) := by
  have hp : 2 ^ n ≤ 4096 := Nat.pow_le_pow_right (n := 2) (by decide) hn
  have hle : th_po S n ≤ n := th_sm_le
  have k5 : ∀ (f i r : Nat) (t : tm_S), i + f = th_po S n → tl_R S i r → tl_F n σ t → tl_M S n i (t.1 21) → (∀ q2 : Nat, ¬ q2 = 21 → t.1 q2 = s.1 q2) → WP (d + 2) 37 5 [(4, .int (nI i)), (3, .int (nI r)), (0, .ref 2), (1, .int (nI S)), (2, .ref 21)] [] t (fun q t => q = none ∧ tl_F n σ t ∧ tl_N S n (t.1 21) ∧ ∀ q2 : Nat, ¬ q2 = 21 → t.1 q2 = s.1 q2) := by
    intro f
    induction f with
    | zero =>
      intro i r t hf hr Ft hM ho
      have ek : t.1 2 5 = nI (th_po S n) := by rw [ho 2 (by decide)]; exact hk
      obtain rfl : i = th_po S n := by omega
      refine wp_ldi rfl tm_m0 ?_
      refine wp_lda rfl tm_m2 ?_
      refine wq_geti rfl rfl (f := 5) rfl rfl (Or.inl rfl) ?_
      rw [ek]
      refine wq_icge rfl (fun h11 => ?_) (fun h11 => absurd (nI_le (Nat.le_refl _) (by omega)) h11)
      exact wp_retv rfl ⟨rfl, Ft, hM, ho⟩
    | succ f ih =>
      intro i r t hf hr Ft hM ho
      have ek : t.1 2 5 = nI (th_po S n) := by rw [ho 2 (by decide)]; exact hk
      obtain ⟨r1, r2, r3, r4, r5, r6⟩ := tl_R1 hn hS hr (by omega)
      have eL : (nI (tl_low r 12)).toInt = tl_low r 12 := nI_toInt (by omega)
      refine wp_ldi rfl tm_m0 ?_
      refine wp_lda rfl tm_m2 ?_
      refine wq_geti rfl rfl (f := 5) rfl rfl (Or.inl rfl) ?_
      rw [ek]
      refine wq_icge rfl (fun h11 => absurd h11 (nI_ge (by omega) (by omega))) (fun h11 => ?_)
      refine wp_ldi rfl tm_m0 ?_
      refine wp_lda rfl tm_m4 ?_
      refine wq_len (x := 12) rfl rfl (by decide) ?_
      refine wq_icge rfl (fun h18 => absurd h18 (nI_ge (b := 12) (by omega) (by decide))) (fun h18 => ?_)
      refine wp_lda rfl tm_m4 ?_
      refine wp_ldi rfl tm_m0 ?_
      refine wp_ldi rfl tm_m1 ?_
      refine wq_cals [.int (nI r)] rfl rfl rfl rfl rfl rfl (tl_lm r1 r2) ?_
      rintro _ _ ⟨rfl, rfl⟩
      refine wp_iast rfl rfl (nI_in (by omega) (by decide)) ?_
      refine wp_ldi rfl tm_m1 ?_
      refine wq_cals [.int (nI r)] rfl rfl rfl rfl rfl rfl (tl_wl r1 r2) ?_
      rintro _ _ ⟨rfl, rfl⟩
      refine wq_sti [(3, .int (nI (r &&& (r - 1)))), (4, .int (nI i)), (0, .ref 2), (1, .int (nI S)), (2, .ref 21)] rfl rfl ?_
      refine wq_inc (c := 1) [(4, .int ((nI i) + 1)), (3, .int (nI (r &&& (r - 1)))), (0, .ref 2), (1, .int (nI S)), (2, .ref 21)] rfl tm_m1 rfl rfl ?_
      refine wp_go rfl ?_
      rw [nI_1, nI_clamp (n := i) (by omega)]
      refine WP.less (ih (i + 1) _ _ (by omega) r6 ⟨tv_TY_row Ft.1 (ty := (0, 32)) (fun _ => rfl) (by rw [eL]; show (0 : Int) ≤ _; omega) (by rw [eL]; show _ ≤ (32 : Int); omega), tv_un_tr Ft.2 (tv_un_ar rfl rfl)⟩ (fun q hq => ?_) (fun q2 h2 => ?_)) (by simp)
      · by_cases e : q = i
        · subst e
          exact ⟨tl_low r 12, r3, by rw [tm_gI, if_pos ⟨rfl, rfl⟩], r4, r5⟩
        · obtain ⟨x, x1, x2, x3⟩ := hM q (by omega)
          exact ⟨x, x1, by rw [tm_gI, if_neg (fun z => e z.2)]; exact x2, x3⟩
      · rw [(tm_sI_ar (fun e => h2 e)).1]
        exact ho q2 h2
  show WP (d + 2) 37 0 [(0, .ref 2), (1, .int (nI S)), (2, .ref 21)] [] s _
  refine wp_ldi rfl tm_m1 ?_
  refine wq_sti [(3, .int (nI S)), (0, .ref 2), (1, .int (nI S)), (2, .ref 21)] rfl rfl ?_
  refine wq_con (x := nI 0) rfl (by decide) ?_
  refine wq_sti [(4, .int (nI 0)), (3, .int (nI S)), (0, .ref 2), (1, .int (nI S)), (2, .ref 21)] rfl rfl ?_
  exact WP.less (k5 (th_po S n) 0 S s (by omega) tl_R0 F (fun q hq => absurd hq (by omega)) (fun _ _ => rfl)) (by simp)
def tl_a (x y : Nat) : Nat := if x < y then y - x else x - y
theorem tl_abk : (List.range 12).all (fun x => (List.range 12).all (fun y => decide ((if 0 ≤ nI x - nI y then nI x - nI y else 0 - (nI x - nI y)) = nI (tl_a x y)))) = true := by decide +kernel
theorem tl_abs {x y : Nat} (hx : x < 12) (hy : y < 12) : (if 0 ≤ nI x - nI y then nI x - nI y else 0 - (nI x - nI y)) = nI (tl_a x y) := of_decide_eq_true (List.all_eq_true.mp (List.all_eq_true.mp tl_abk x (List.mem_range.mpr hx)) y (List.mem_range.mpr hy))
theorem tl_mik : (List.range 13).all (fun n => (List.range 13).all (fun A => decide ((if nI (n - A) < nI A then nI (n - A) else nI A) = nI (if n < 2 * A then n - A else A)) || Nat.blt n A)) = true := by decide +kernel
theorem tl_min {n A : Nat} (hn : n ≤ 12) (hA : A ≤ n) : (if nI (n - A) < nI A then nI (n - A) else nI A) = nI (if n < 2 * A then n - A else A) := by
  have h := List.all_eq_true.mp (List.all_eq_true.mp tl_mik n (List.mem_range.mpr (by omega))) A (List.mem_range.mpr (by omega))
  rw [Bool.or_eq_true] at h
  rcases h with h | h
  · exact of_decide_eq_true h
  · have := Nat.le_of_ble_eq_true h
    omega
set_option maxRecDepth 100000 in
set_option maxHeartbeats 4000000 in
theorem tl_sum {d n x y u i q L : Nat} {s : tm_S} (hn : n ≤ 12) (hx : x < n) (hy : y < n) (hu : u < 4096) (hi : i < 12) (hq : q < 12) (e4 : s.1 2 4 = nI n) (ef : s.1 20 i = nI x) (et : s.1 21 q = nI y) (eL : s.1 18 (u ||| 2 ^ q) = nI L) : WM (d + 1) 42 [.ref 2, .int (nI u), .int (nI i), .int (nI q)] s (th_is (.int (nI (th_ap n x y + L))) s) := by
  have hA : tl_a x y ≤ n := by unfold tl_a; split <;> omega
  have ho : u ||| 2 ^ q < 2 ^ 12 := Nat.or_lt_two_pow hu (Nat.pow_lt_pow_right (by decide) hq)
  have eA : th_ap n x y = if n < 2 * tl_a x y then n - tl_a x y else tl_a x y := rfl
  show WP (d + 1) 42 0 [(0, .ref 2), (1, .int (nI u)), (2, .int (nI i)), (3, .int (nI q))] [] s _
  refine wp_lda rfl tm_m0 ?_
  refine wq_getr (p := 20) rfl rfl (f := 2) rfl rfl ?_
  refine wp_ldi rfl tm_m2 ?_
  refine wp_iald rfl rfl (nI_in hi (by decide)) ?_
  rw [nI_clamp (n := i) (by omega), ef]
  refine wp_lda rfl tm_m0 ?_
  refine wq_getr (p := 21) rfl rfl (f := 3) rfl rfl ?_
  refine wp_ldi rfl tm_m3 ?_
  refine wp_iald rfl rfl (nI_in hq (by decide)) ?_
  rw [nI_clamp (n := q) (by omega), et]
  refine wq_isub rfl ?_
  refine wp_mabs rfl (by omega) (by decide) ?_
  rw [tl_abs (by omega) (by omega)]
  refine wq_sti [(4, .int (nI (tl_a x y))), (0, .ref 2), (1, .int (nI u)), (2, .int (nI i)), (3, .int (nI q))] rfl rfl ?_
  refine wp_ldi rfl tm_m0 ?_
  refine wp_lda rfl tm_m1 ?_
  refine wq_geti rfl rfl (f := 4) rfl rfl (Or.inl rfl) ?_
  rw [e4]
  refine wp_ldi rfl tm_m0 ?_
  refine wq_isub rfl ?_
  rw [th_subN hA (by omega)]
  refine wp_mmin rfl (by omega) (by decide) ?_
  rw [tl_min hn hA, ← eA]
  refine wp_lda rfl tm_m1 ?_
  refine wq_getr (p := 18) rfl rfl (f := 0) rfl rfl ?_
  refine wp_ldi rfl tm_m2 ?_
  refine wq_con (x := 1) rfl (by decide) ?_
  refine wp_ldi rfl tm_m4 ?_
  refine wq_ishl rfl ?_
  refine wq_ior rfl ?_
  rw [th_nIor (by omega) (by omega)]
  refine wp_iald rfl rfl (nI_in (by omega) (by decide)) ?_
  rw [nI_clamp (n := u ||| 2 ^ q) (by omega), eL]
  refine wq_iadd rfl ?_
  rw [nI_add]
  exact wp_reti rfl (th_nI rfl) ⟨rfl, rfl⟩
def tl_C (n a c : Nat) (s : tm_S) : Prop := s.1 2 4 = nI n ∧ s.1 2 5 = nI (th_po a n) ∧ tl_N a n (s.1 20) ∧ tl_N c n (s.1 21)
/-- the sums of all sets from T on are made -/
def tl_A (n a c T : Nat) (f k : Nat → Int32) : Prop := ∀ u : Nat, T ≤ u → u < 2 ^ th_po a n → f u = nI (tl_LW (th_po a n) (tl_d n a c) (th_po a n - th_po u (th_po a n)) u).1 ∧ k u = (tl_LW (th_po a n) (tl_d n a c) (th_po a n - th_po u (th_po a n)) u).2
set_option maxRecDepth 100000 in
set_option maxHeartbeats 4000000 in
theorem tl_weigh {d n a c u r : Nat} {σ s : tm_S} (hn : n ≤ 12) (hac : th_po a n = th_po c n) (hu : u < 2 ^ th_po a n) (hr : th_po u (th_po a n) + (r + 1) = th_po a n) (F : tl_F n σ s) (hC : tl_C n a c s) (hA : tl_A n a c (u + 1) (s.1 18) (s.1 19)) : WM (d + 2) 41 [.ref 2, .int (nI u)] s (fun q t => q = none ∧ tl_F n σ t ∧ tl_C n a c t ∧ tl_A n a c u (t.1 18) (t.1 19)) := by
  have hk : th_po a n ≤ n := th_sm_le
  have hp : 2 ^ th_po a n ≤ 4096 := Nat.pow_le_pow_right (n := 2) (by decide) (show th_po a n ≤ 12 by omega)
  have hwl := th_po12 (show th_po a n ≤ 12 by omega) hu
  have k14 : ∀ f q : Nat, q + f = th_po a n → ∀ p : Nat × Int32, p = tl_fo (tl_st (tl_d n a c (th_po a n - (r + 1))) (tl_LW (th_po a n) (tl_d n a c) r) u) (2147483647, 0) q → p.1 ≤ 2147483647 → WP (d + 2) 41 14 [(5, .int (nI q)), (4, .int (p.2)), (3, .int (nI p.1)), (2, .int (nI (th_po u (th_po a n)))), (0, .ref 2), (1, .int (nI u))] [] s (fun q t => q = none ∧ tl_F n σ t ∧ tl_C n a c t ∧ tl_A n a c u (t.1 18) (t.1 19)) := by
    intro f
    induction f with
    | zero =>
      intro q hq p ep hp1
      obtain rfl : q = th_po a n := by omega
      have ew := tl_LWi (I := 2147483647) hn hac hu hr (by decide)
      rw [← ep] at ew
      refine wp_ldi rfl tm_m0 ?_
      refine wp_lda rfl tm_m4 ?_
      refine wq_geti rfl rfl (f := 5) rfl rfl (Or.inl rfl) ?_
      rw [hC.2.1]
      refine wq_icge rfl (fun h20 => ?_) (fun h20 => absurd (nI_le (Nat.le_refl _) (by omega)) h20)
      refine wp_lda rfl tm_m4 ?_
      refine wq_getr (p := 18) rfl rfl (f := 0) rfl rfl ?_
      refine wp_ldi rfl tm_m5 ?_
      refine wp_ldi rfl tm_m2 ?_
      refine wp_iast rfl rfl (nI_in (by omega) (by decide)) ?_
      refine wp_lda rfl tm_m4 ?_
      refine wq_getr (p := 19) rfl rfl (f := 1) rfl rfl ?_
      refine wp_ldi rfl tm_m5 ?_
      refine wp_ldi rfl tm_m1 ?_
      refine wp_iast rfl rfl (nI_in (by omega) (by decide)) ?_
      refine wp_retv rfl ⟨rfl, ⟨tv_TY_row (tv_TY_row F.1 (ty := ((-2147483648), 2147483647)) (fun _ => rfl) (tn_rng _).1 (tn_rng _).2) (ty := ((-2147483648), 2147483647)) (fun _ => rfl) (tn_rng _).1 (tn_rng _).2, tv_un_tr (tv_un_tr F.2 (tv_un_ar rfl rfl)) (tv_un_ar rfl rfl)⟩, ⟨hC.1, hC.2.1, hC.2.2.1, hC.2.2.2⟩, fun v hv1 hv2 => ?_⟩
      rw [nI_clamp (n := u) (by omega)]
      by_cases e : v = u
      · subst e
        rw [tm_gI, if_neg (fun z => absurd z.1 (by decide)), tm_gI, if_pos ⟨rfl, rfl⟩, tm_gI, if_pos ⟨rfl, rfl⟩, show th_po a n - th_po v (th_po a n) = r + 1 by omega, ← ew]
        exact ⟨rfl, rfl⟩
      · rw [tm_gI, if_neg (fun z => absurd z.1 (by decide)), tm_gI, if_neg (fun z => e z.2), tm_gI, if_neg (fun z => e z.2), tm_gI, if_neg (fun z => absurd z.1 (by decide))]
        exact hA v (by omega) hv2
    | succ f ih =>
      intro q hq p ep hp1
      have nx : ∀ p2 : Nat × Int32, p2 = tl_st (tl_d n a c (th_po a n - (r + 1))) (tl_LW (th_po a n) (tl_d n a c) r) u q p → p2.1 ≤ 2147483647 → WP (d + 2) 41 14 [(5, .int (nI (q + 1))), (4, .int (p2.2)), (3, .int (nI p2.1)), (2, .int (nI (th_po u (th_po a n)))), (0, .ref 2), (1, .int (nI u))] [] s (fun q t => q = none ∧ tl_F n σ t ∧ tl_C n a c t ∧ tl_A n a c u (t.1 18) (t.1 19)) := fun p2 e2 l2 => ih (q + 1) (by omega) p2 (by rw [e2, ep]; rfl) l2
      have eb := th_bt1 (S := u) (x := q) (by omega) (by omega)
      refine wp_ldi rfl tm_m0 ?_
      refine wp_lda rfl tm_m4 ?_
      refine wq_geti rfl rfl (f := 5) rfl rfl (Or.inl rfl) ?_
      rw [hC.2.1]
      refine wq_icge rfl (fun h20 => absurd h20 (nI_ge (by omega) (by omega))) (fun h20 => ?_)
      refine wp_ldi rfl tm_m5 ?_
      refine wp_ldi rfl tm_m0 ?_
      refine wq_ishr rfl ?_
      refine wq_con (x := 1) rfl (by decide) ?_
      refine wq_iand rfl ?_
      refine wq_ifeq rfl (fun h29 => ?_) (fun h29 => ?_)
      · have hb : u.testBit q = false := by
          cases hb : u.testBit q with
          | false => rfl
          | true => exact absurd h29 (by rw [eb, hb]; decide)
        obtain ⟨o1, o2, o3⟩ := tl_or hu (show q < th_po a n by omega) hb
        obtain ⟨a1, a2⟩ := hA (u ||| 2 ^ q) (by omega) o1
        rw [show th_po a n - th_po (u ||| 2 ^ q) (th_po a n) = r by omega] at a1 a2
        have hL := tl_LWb hn hac r (u ||| 2 ^ q) o1 (by omega)
        have hd6 := tl_d6 (c := c) (i := th_po a n - (r + 1)) hn (show th_po a n - (r + 1) < th_po a n by omega) (show q < th_po c n by omega)
        have ei : th_po u (th_po a n) = th_po a n - (r + 1) := by omega
        have i1 : th_po u (th_po a n) < th_po a n := by omega
        have x1 := (tl_nxo (S := a) (n := n) i1).1
        have y1 := (tl_nxo (S := c) (n := n) (show q < th_po c n by omega)).1
        refine wp_lda rfl tm_m4 ?_
        refine wp_ldi rfl tm_m5 ?_
        refine wp_ldi rfl tm_m3 ?_
        refine wp_ldi rfl tm_m0 ?_
        refine wq_calv [.int (nI u), .int (nI (th_po u (th_po a n))), .int (nI q)] rfl rfl rfl rfl rfl rfl rfl rfl rfl (tl_sum hn x1 y1 (by omega) (by omega) (by omega) hC.1 (tl_Nn hC.2.2.1 i1) (tl_Nn hC.2.2.2 (show q < th_po c n by omega)) a1) ?_
        rintro _ _ ⟨rfl, rfl⟩
        rw [show th_ap n (tl_nx a (th_po u (th_po a n)) n) (tl_nx c q n) + (tl_LW (th_po a n) (tl_d n a c) r (u ||| 2 ^ q)).1 = tl_d n a c (th_po a n - (r + 1)) q + (tl_LW (th_po a n) (tl_d n a c) r (u ||| 2 ^ q)).1 by rw [ei]; rfl]
        refine wq_sti [(6, .int (nI (tl_d n a c (th_po a n - (r + 1)) q + (tl_LW (th_po a n) (tl_d n a c) r (u ||| 2 ^ q)).1))), (5, .int (nI q)), (4, .int (p.2)), (3, .int (nI p.1)), (2, .int (nI (th_po u (th_po a n)))), (0, .ref 2), (1, .int (nI u))] rfl rfl ?_
        refine wp_ldi rfl tm_m0 ?_
        refine wp_ldi rfl tm_m3 ?_
        refine wq_icge rfl (fun h48 => ?_) (fun h48 => ?_)
        · refine wp_ldi rfl tm_m0 ?_
          refine wp_ldi rfl tm_m3 ?_
          refine wq_icne rfl (fun h60 => ?_) (fun h60 => ?_)
          · refine wq_inc (c := 1) [(5, .int ((nI q) + 1)), (6, .int (nI (tl_d n a c (th_po a n - (r + 1)) q + (tl_LW (th_po a n) (tl_d n a c) r (u ||| 2 ^ q)).1))), (4, .int (p.2)), (3, .int (nI p.1)), (2, .int (nI (th_po u (th_po a n)))), (0, .ref 2), (1, .int (nI u))] rfl tm_m1 rfl rfl ?_
            refine wp_go rfl ?_
            have c1 : ¬ tl_d n a c (th_po a n - (r + 1)) q + (tl_LW (th_po a n) (tl_d n a c) r (u ||| 2 ^ q)).1 < p.1 := fun z => absurd h48 (nI_ge z (by omega))
            have c2 : ¬ tl_d n a c (th_po a n - (r + 1)) q + (tl_LW (th_po a n) (tl_d n a c) r (u ||| 2 ^ q)).1 = p.1 := fun z => h60 (by rw [z])
            rw [nI_1]
            exact WP.less (nx p (by unfold tl_st; rw [if_neg (show ¬ u.testBit q = true by rw [hb]; decide), if_neg c1, if_neg c2]) hp1) (by simp)
          · refine wp_ldi rfl tm_m2 ?_
            refine wp_lda rfl tm_m5 ?_
            refine wq_getr (p := 19) rfl rfl (f := 1) rfl rfl ?_
            refine wp_ldi rfl tm_m6 ?_
            refine wq_con (x := 1) rfl (by decide) ?_
            refine wp_ldi rfl tm_m1 ?_
            refine wq_ishl rfl ?_
            refine wq_ior rfl ?_
            rw [th_nIor (by omega) (by omega)]
            refine wp_iald rfl rfl (nI_in (by omega) (by decide)) ?_
            rw [nI_clamp (n := u ||| 2 ^ q) (by omega), a2]
            refine wq_iadd rfl ?_
            refine wq_sti [(4, .int (p.2 + ((tl_LW (th_po a n) (tl_d n a c) r (u ||| 2 ^ q)).2))), (6, .int (nI (tl_d n a c (th_po a n - (r + 1)) q + (tl_LW (th_po a n) (tl_d n a c) r (u ||| 2 ^ q)).1))), (5, .int (nI q)), (3, .int (nI p.1)), (2, .int (nI (th_po u (th_po a n)))), (0, .ref 2), (1, .int (nI u))] rfl rfl ?_
            refine wq_inc (c := 1) [(5, .int ((nI q) + 1)), (4, .int (p.2 + ((tl_LW (th_po a n) (tl_d n a c) r (u ||| 2 ^ q)).2))), (6, .int (nI (tl_d n a c (th_po a n - (r + 1)) q + (tl_LW (th_po a n) (tl_d n a c) r (u ||| 2 ^ q)).1))), (3, .int (nI p.1)), (2, .int (nI (th_po u (th_po a n)))), (0, .ref 2), (1, .int (nI u))] rfl tm_m2 rfl rfl ?_
            refine wp_go rfl ?_
            have c1 : ¬ tl_d n a c (th_po a n - (r + 1)) q + (tl_LW (th_po a n) (tl_d n a c) r (u ||| 2 ^ q)).1 < p.1 := fun z => absurd h48 (nI_ge z (by omega))
            have c2 : tl_d n a c (th_po a n - (r + 1)) q + (tl_LW (th_po a n) (tl_d n a c) r (u ||| 2 ^ q)).1 = p.1 := (nI_eq (by omega) (by omega)).mp (Classical.not_not.mp h60)
            rw [nI_1]
            exact WP.less (nx (p.1, p.2 + (tl_LW (th_po a n) (tl_d n a c) r (u ||| 2 ^ q)).2) (by unfold tl_st; rw [if_neg (show ¬ u.testBit q = true by rw [hb]; decide), if_neg c1, if_pos c2]) hp1) (by simp)
        · refine wp_ldi rfl tm_m0 ?_
          refine wq_sti [(3, .int (nI (tl_d n a c (th_po a n - (r + 1)) q + (tl_LW (th_po a n) (tl_d n a c) r (u ||| 2 ^ q)).1))), (6, .int (nI (tl_d n a c (th_po a n - (r + 1)) q + (tl_LW (th_po a n) (tl_d n a c) r (u ||| 2 ^ q)).1))), (5, .int (nI q)), (4, .int (p.2)), (2, .int (nI (th_po u (th_po a n)))), (0, .ref 2), (1, .int (nI u))] rfl rfl ?_
          refine wq_con (x := 0) rfl (by decide) ?_
          refine wq_sti [(4, .int 0), (3, .int (nI (tl_d n a c (th_po a n - (r + 1)) q + (tl_LW (th_po a n) (tl_d n a c) r (u ||| 2 ^ q)).1))), (6, .int (nI (tl_d n a c (th_po a n - (r + 1)) q + (tl_LW (th_po a n) (tl_d n a c) r (u ||| 2 ^ q)).1))), (5, .int (nI q)), (2, .int (nI (th_po u (th_po a n)))), (0, .ref 2), (1, .int (nI u))] rfl rfl ?_
          refine wp_ldi rfl tm_m2 ?_
          refine wp_ldi rfl tm_m1 ?_
          refine wq_icne rfl (fun h60 => absurd rfl h60) (fun h60 => ?_)
          refine wp_ldi rfl tm_m0 ?_
          refine wp_lda rfl tm_m5 ?_
          refine wq_getr (p := 19) rfl rfl (f := 1) rfl rfl ?_
          refine wp_ldi rfl tm_m6 ?_
          refine wq_con (x := 1) rfl (by decide) ?_
          refine wp_ldi rfl tm_m3 ?_
          refine wq_ishl rfl ?_
          refine wq_ior rfl ?_
          rw [th_nIor (by omega) (by omega)]
          refine wp_iald rfl rfl (nI_in (by omega) (by decide)) ?_
          rw [nI_clamp (n := u ||| 2 ^ q) (by omega), a2]
          refine wq_iadd rfl ?_
          refine wq_sti [(4, .int (0 + ((tl_LW (th_po a n) (tl_d n a c) r (u ||| 2 ^ q)).2))), (3, .int (nI (tl_d n a c (th_po a n - (r + 1)) q + (tl_LW (th_po a n) (tl_d n a c) r (u ||| 2 ^ q)).1))), (6, .int (nI (tl_d n a c (th_po a n - (r + 1)) q + (tl_LW (th_po a n) (tl_d n a c) r (u ||| 2 ^ q)).1))), (5, .int (nI q)), (2, .int (nI (th_po u (th_po a n)))), (0, .ref 2), (1, .int (nI u))] rfl rfl ?_
          refine wq_inc (c := 1) [(5, .int ((nI q) + 1)), (4, .int (0 + ((tl_LW (th_po a n) (tl_d n a c) r (u ||| 2 ^ q)).2))), (3, .int (nI (tl_d n a c (th_po a n - (r + 1)) q + (tl_LW (th_po a n) (tl_d n a c) r (u ||| 2 ^ q)).1))), (6, .int (nI (tl_d n a c (th_po a n - (r + 1)) q + (tl_LW (th_po a n) (tl_d n a c) r (u ||| 2 ^ q)).1))), (2, .int (nI (th_po u (th_po a n)))), (0, .ref 2), (1, .int (nI u))] rfl tm_m3 rfl rfl ?_
          refine wp_go rfl ?_
          have c1 : tl_d n a c (th_po a n - (r + 1)) q + (tl_LW (th_po a n) (tl_d n a c) r (u ||| 2 ^ q)).1 < p.1 := Classical.byContradiction (fun z => h48 (nI_le (by omega) (by omega)))
          rw [nI_1]
          exact WP.less (nx (tl_d n a c (th_po a n - (r + 1)) q + (tl_LW (th_po a n) (tl_d n a c) r (u ||| 2 ^ q)).1, 0 + (tl_LW (th_po a n) (tl_d n a c) r (u ||| 2 ^ q)).2) (by unfold tl_st; rw [if_neg (show ¬ u.testBit q = true by rw [hb]; decide), if_pos c1]) (by show tl_d n a c (th_po a n - (r + 1)) q + (tl_LW (th_po a n) (tl_d n a c) r (u ||| 2 ^ q)).1 ≤ 2147483647; omega)) (by simp)
      · refine wp_go rfl ?_
        refine wq_inc (c := 1) [(5, .int ((nI q) + 1)), (4, .int (p.2)), (3, .int (nI p.1)), (2, .int (nI (th_po u (th_po a n)))), (0, .ref 2), (1, .int (nI u))] rfl tm_m0 rfl rfl ?_
        refine wp_go rfl ?_
        have hb : u.testBit q = true := by
          cases hb : u.testBit q with
          | true => rfl
          | false => exact absurd (by rw [eb, hb]; rfl) h29
        rw [nI_1]
        exact WP.less (nx p (by unfold tl_st; rw [if_pos hb]) hp1) (by simp)
  show WP (d + 2) 41 0 [(0, .ref 2), (1, .int (nI u))] [] s _
  refine wp_ldi rfl tm_m1 ?_
  refine wq_cals [.int (nI u)] rfl rfl rfl rfl rfl rfl (th_bitCount (nI u) (Q := th_is (.int (nI (th_po u (th_po a n)))) s) ⟨by rw [th_bn (by omega), hwl], rfl⟩) ?_
  rintro _ _ ⟨rfl, rfl⟩
  refine wq_sti [(2, .int (nI (th_po u (th_po a n)))), (0, .ref 2), (1, .int (nI u))] rfl rfl ?_
  refine wq_con (x := nI 2147483647) rfl (by decide) ?_
  refine wq_sti [(3, .int (nI 2147483647)), (2, .int (nI (th_po u (th_po a n)))), (0, .ref 2), (1, .int (nI u))] rfl rfl ?_
  refine wq_con (x := 0) rfl (by decide) ?_
  refine wq_sti [(4, .int 0), (3, .int (nI 2147483647)), (2, .int (nI (th_po u (th_po a n)))), (0, .ref 2), (1, .int (nI u))] rfl rfl ?_
  refine wq_con (x := nI 0) rfl (by decide) ?_
  refine wq_sti [(5, .int (nI 0)), (4, .int 0), (3, .int (nI 2147483647)), (2, .int (nI (th_po u (th_po a n)))), (0, .ref 2), (1, .int (nI u))] rfl rfl ?_
  exact WP.less (k14 (th_po a n) 0 (by omega) (2147483647, 0) rfl (Nat.le_refl _)) (by simp)
set_option maxRecDepth 100000 in
set_option maxHeartbeats 4000000 in
theorem tl_solve {d n a c : Nat} {σ s : tm_S} (hn : n ≤ 12) (ha : a < 2 ^ n) (hc : c < 2 ^ n) (hac : th_po a n = th_po c n) (F : tl_F n σ s) : WM (d + 3) 36 [.ref 2, .int (nI n), .int (nI a), .int (nI c)] s (fun q t => q = none ∧ tl_F n σ t ∧ tl_C n a c t ∧ tl_A n a c 0 (t.1 18) (t.1 19)) := by
  have hk : th_po a n ≤ n := th_sm_le
  have hp : 2 ^ n ≤ 4096 := Nat.pow_le_pow_right (n := 2) (by decide) hn
  have hpk : 2 ^ th_po a n ≤ 4096 := Nat.pow_le_pow_right (n := 2) (by decide) (show th_po a n ≤ 12 by omega)
  have hpp : 0 < 2 ^ th_po a n := Nat.two_pow_pos _
  have hwl := th_po12 hn ha
  have k63 : ∀ (T : Nat) (t : tm_S), T < 2 ^ th_po a n → tl_F n σ t → tl_C n a c t → tl_A n a c T (t.1 18) (t.1 19) → WP (d + 3) 36 63 [(5, .int (nI T - 1)), (4, .int (nI (2 ^ th_po a n - 1))), (0, .ref 2), (1, .int (nI n)), (2, .int (nI a)), (3, .int (nI c))] [] t (fun q t => q = none ∧ tl_F n σ t ∧ tl_C n a c t ∧ tl_A n a c 0 (t.1 18) (t.1 19)) := by
    intro T
    induction T with
    | zero =>
      intro t hT Ft hC hA
      refine wp_ldi rfl tm_m0 ?_
      refine wq_iflt rfl (fun h65 => ?_) (fun h65 => absurd (by decide) h65)
      exact wp_retv rfl ⟨rfl, Ft, hC, hA⟩
    | succ T ih =>
      intro t hT Ft hC hA
      rw [nI_pred]
      have hTu : T < 2 ^ th_po a n := by omega
      have hpo : th_po T (th_po a n) < th_po a n := th_po_lt hTu (by omega)
      obtain ⟨r, hr⟩ : ∃ r : Nat, th_po T (th_po a n) + (r + 1) = th_po a n := ⟨th_po a n - th_po T (th_po a n) - 1, by omega⟩
      refine wp_ldi rfl tm_m0 ?_
      refine wq_iflt rfl (fun h65 => absurd h65 (nI_pos (by omega))) (fun h65 => ?_)
      refine wp_lda rfl tm_m2 ?_
      refine wp_ldi rfl tm_m0 ?_
      refine wq_calv [.int (nI T)] rfl rfl rfl rfl rfl rfl rfl rfl rfl (tl_weigh hn hac hTu hr Ft hC hA) ?_
      rintro _ t2 ⟨rfl, F2, C2, A2⟩
      refine wq_inc (c := (-1)) [(5, .int ((nI T) + (-1))), (4, .int (nI (2 ^ th_po a n - 1))), (0, .ref 2), (1, .int (nI n)), (2, .int (nI a)), (3, .int (nI c))] rfl tm_m0 rfl rfl ?_
      refine wp_go rfl ?_
      rw [show nI T + (-1) = nI T - 1 from (Int32.sub_eq_add_neg _ _).symm]
      exact WP.less (ih t2 (by omega) F2 C2 A2) (by simp)
  show WP (d + 3) 36 0 [(0, .ref 2), (1, .int (nI n)), (2, .int (nI a)), (3, .int (nI c))] [] s _
  refine wp_lda rfl tm_m0 ?_
  refine wp_ldi rfl tm_m1 ?_
  refine wq_puti rfl rfl (f := 4) rfl rfl ?_
  refine wp_lda rfl tm_m0 ?_
  refine wp_ldi rfl tm_m2 ?_
  refine wq_cals [.int (nI a)] rfl rfl rfl rfl rfl rfl (th_bitCount (nI a) (Q := th_is (.int (nI (th_po a n))) (tm_sI s 2 4 (nI n))) ⟨by rw [th_bn (by omega), hwl], rfl⟩) ?_
  rintro _ _ ⟨rfl, rfl⟩
  refine wq_puti rfl rfl (f := 5) rfl rfl ?_
  have F1 : tl_F n σ (tm_sI (tm_sI s 2 4 (nI n)) 2 5 (nI (th_po a n))) := ⟨tv_TY_sI (tv_TY_sI F.1 (by rw [nI_toInt (by omega)]; show (0 : Int) ≤ _; omega) (by rw [nI_toInt (by omega)]; show _ ≤ (12 : Int); omega)) (by rw [nI_toInt (by omega)]; show (0 : Int) ≤ _; omega) (by rw [nI_toInt (by omega)]; show _ ≤ (12 : Int); omega), tv_un_tr (tv_un_tr F.2 (tv_un_fI rfl)) (tv_un_fI rfl)⟩
  have a4 : (tm_sI (tm_sI s 2 4 (nI n)) 2 5 (nI (th_po a n))).1 2 4 = nI n := by rw [tm_gI, if_neg (fun z => absurd z.2 (by decide)), tm_gI, if_pos ⟨rfl, rfl⟩]
  have a5 : (tm_sI (tm_sI s 2 4 (nI n)) 2 5 (nI (th_po a n))).1 2 5 = nI (th_po a n) := by rw [tm_gI, if_pos ⟨rfl, rfl⟩]
  generalize tm_sI (tm_sI s 2 4 (nI n)) 2 5 (nI (th_po a n)) = s1 at F1 a4 a5 ⊢
  refine wp_lda rfl tm_m0 ?_
  refine wp_ldi rfl tm_m2 ?_
  refine wp_lda rfl tm_m0 ?_
  refine wq_getr (p := 20) rfl rfl (f := 2) rfl rfl ?_
  refine wq_calv [.int (nI a), .ref 20] rfl rfl rfl rfl rfl rfl rfl rfl rfl (tl_list20 F1 hn ha a5) ?_
  rintro _ s2 ⟨rfl, F2, N2, O2⟩
  have b4 : s2.1 2 4 = nI n := by rw [O2 2 (by decide)]; exact a4
  have b5 : s2.1 2 5 = nI (th_po a n) := by rw [O2 2 (by decide)]; exact a5
  refine wp_lda rfl tm_m0 ?_
  refine wp_ldi rfl tm_m3 ?_
  refine wp_lda rfl tm_m0 ?_
  refine wq_getr (p := 21) rfl rfl (f := 3) rfl rfl ?_
  refine wq_calv [.int (nI c), .ref 21] rfl rfl rfl rfl rfl rfl rfl rfl rfl (tl_list21 F2 hn hc (by rw [← hac]; exact b5)) ?_
  rintro _ s3 ⟨rfl, F3, N3, O3⟩
  have C3 : tl_C n a c s3 := ⟨by rw [O3 2 (by decide)]; exact b4, by rw [O3 2 (by decide)]; exact b5, by rw [O3 20 (by decide)]; exact N2, N3⟩
  refine wq_con (x := 1) rfl (by decide) ?_
  refine wp_lda rfl tm_m0 ?_
  refine wq_geti rfl rfl (f := 5) rfl rfl (Or.inl rfl) ?_
  rw [C3.2.1]
  refine wq_ishl rfl ?_
  refine wq_con (x := 1) rfl (by decide) ?_
  refine wq_isub rfl ?_
  rw [th_m24 _ (by omega)]
  refine wq_sti [(4, .int (nI (2 ^ th_po a n - 1))), (0, .ref 2), (1, .int (nI n)), (2, .int (nI a)), (3, .int (nI c))] rfl rfl ?_
  refine wp_lda rfl tm_m1 ?_
  refine wq_getr (p := 18) rfl rfl (f := 0) rfl rfl ?_
  refine wp_ldi rfl tm_m0 ?_
  refine wq_con (x := 0) rfl (by decide) ?_
  refine wp_iast rfl rfl (nI_in (by omega) (by decide)) ?_
  refine wp_lda rfl tm_m1 ?_
  refine wq_getr (p := 19) rfl rfl (f := 1) rfl rfl ?_
  refine wp_ldi rfl tm_m0 ?_
  refine wq_con (x := 1) rfl (by decide) ?_
  refine wp_iast rfl rfl (nI_in (by omega) (by decide)) ?_
  refine wp_ldi rfl tm_m0 ?_
  refine wq_con (x := 1) rfl (by decide) ?_
  refine wq_isub rfl ?_
  refine wq_sti [(5, .int ((nI (2 ^ th_po a n - 1)) - 1)), (4, .int (nI (2 ^ th_po a n - 1))), (0, .ref 2), (1, .int (nI n)), (2, .int (nI a)), (3, .int (nI c))] rfl rfl ?_
  rw [nI_clamp (n := 2 ^ th_po a n - 1) (by omega)]
  refine WP.less (k63 (2 ^ th_po a n - 1) _ (by omega) ⟨tv_TY_row (tv_TY_row F3.1 (ty := ((-2147483648), 2147483647)) (fun _ => rfl) (tn_rng _).1 (tn_rng _).2) (ty := ((-2147483648), 2147483647)) (fun _ => rfl) (tn_rng _).1 (tn_rng _).2, tv_un_tr (tv_un_tr F3.2 (tv_un_ar rfl rfl)) (tv_un_ar rfl rfl)⟩ ⟨C3.1, C3.2.1, C3.2.2.1, C3.2.2.2⟩ (fun u u1 u2 => ?_)) (by simp)
  obtain rfl : u = 2 ^ th_po a n - 1 := by omega
  rw [tm_gI, if_neg (fun z => absurd z.1 (by decide)), tm_gI, if_pos ⟨rfl, rfl⟩, tm_gI, if_pos ⟨rfl, rfl⟩, th_po_fu, Nat.sub_self]
  exact ⟨rfl, rfl⟩
