/-! ===== small methods by hand ===== -/
def th_b0 (x : Int32) : Int32 := x - ((x.toUInt32 >>> (Int32.toUInt32 1 &&& Int32.toUInt32 31)).toInt32 &&& 1431655765)
def th_b1 (x : Int32) : Int32 := (x &&& 858993459) + ((x.toUInt32 >>> (Int32.toUInt32 2 &&& Int32.toUInt32 31)).toInt32 &&& 858993459)
def th_b2 (x : Int32) : Int32 := (x + (x.toUInt32 >>> (Int32.toUInt32 4 &&& Int32.toUInt32 31)).toInt32) &&& 252645135
def th_b3 (x : Int32) : Int32 := x + (x.toUInt32 >>> (Int32.toUInt32 8 &&& Int32.toUInt32 31)).toInt32
def th_b4 (x : Int32) : Int32 := x + (x.toUInt32 >>> (Int32.toUInt32 16 &&& Int32.toUInt32 31)).toInt32
def th_bit (x : Int32) : Int32 := th_b4 (th_b3 (th_b2 (th_b1 (th_b0 x)))) &&& 63
theorem th_bitCount {d : Nat} {σ : tm_S} {Q : Option Value → tm_S → Prop} (x : Int32) (h : Q (some (.int (th_bit x))) σ) : WM d 25 [.int x] σ Q := by
  show WP d 25 0 [(0, .int x)] [] σ Q
  refine wp_ldi rfl tm_m0 ?_
  refine wp_ldi rfl tm_m0 ?_
  refine wq_con (x := 1) rfl (by decide) ?_
  refine wq_iushr rfl ?_
  refine wq_con (x := 1431655765) rfl (by decide) ?_
  refine wq_iand rfl ?_
  refine wq_isub rfl ?_
  refine wq_sti [(0, .int (th_b0 x))] rfl rfl ?_
  refine wp_ldi rfl tm_m0 ?_
  refine wq_con (x := 858993459) rfl (by decide) ?_
  refine wq_iand rfl ?_
  refine wp_ldi rfl tm_m0 ?_
  refine wq_con (x := 2) rfl (by decide) ?_
  refine wq_iushr rfl ?_
  refine wq_con (x := 858993459) rfl (by decide) ?_
  refine wq_iand rfl ?_
  refine wq_iadd rfl ?_
  refine wq_sti [(0, .int (th_b1 (th_b0 x)))] rfl rfl ?_
  refine wp_ldi rfl tm_m0 ?_
  refine wp_ldi rfl tm_m0 ?_
  refine wq_con (x := 4) rfl (by decide) ?_
  refine wq_iushr rfl ?_
  refine wq_iadd rfl ?_
  refine wq_con (x := 252645135) rfl (by decide) ?_
  refine wq_iand rfl ?_
  refine wq_sti [(0, .int (th_b2 (th_b1 (th_b0 x))))] rfl rfl ?_
  refine wp_ldi rfl tm_m0 ?_
  refine wp_ldi rfl tm_m0 ?_
  refine wq_con (x := 8) rfl (by decide) ?_
  refine wq_iushr rfl ?_
  refine wq_iadd rfl ?_
  refine wq_sti [(0, .int (th_b3 (th_b2 (th_b1 (th_b0 x)))))] rfl rfl ?_
  refine wp_ldi rfl tm_m0 ?_
  refine wp_ldi rfl tm_m0 ?_
  refine wq_con (x := 16) rfl (by decide) ?_
  refine wq_iushr rfl ?_
  refine wq_iadd rfl ?_
  refine wq_sti [(0, .int (th_b4 (th_b3 (th_b2 (th_b1 (th_b0 x))))))] rfl rfl ?_
  refine wp_ldi rfl tm_m0 ?_
  refine wq_con (x := 63) rfl (by decide) ?_
  refine wq_iand rfl ?_
  exact wp_reti rfl (fun ty ht => by cases ht; rfl) h
