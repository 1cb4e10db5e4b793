/-! ===== the fresh object: its first store as a table, contexts over it ===== -/
def tF_T : tv_TT := [.inl [(0, 0), (0, 0), (0, 0), (0, 0), (0, 0), (0, 0), (0, 0), (0, 0), (0, 0)], .inl [(12, 12), (0, 0), (0, 0)], .inl [(0, 0), (0, 0), (0, 0), (0, 0), (0, 0), (0, 0)], .inl [(0, 0), (0, 0), (0, 0)], .inl [(0, 0), (0, 0), (0, 0), (0, 0), (0, 0)], .inl [(0, 0), (0, 0), (0, 0), (0, 0), (0, 0)], .inl [(0, 0), (0, 0), (0, 12), (0, 0), (0, 0), (0, 0), (0, 1), (0, 0), ((-1), (-1))], .inl [(0, 0), (0, 0)], .inl [(0, 0), (0, 0)], .inl [(0, 0), (0, 0), (0, 0), (0, 0), (0, 0), (0, 0), (0, 0), (0, 0)], .inl [(0, 0), (0, 0), (0, 0), (0, 0), (0, 0), (0, 0), (0, 0), (0, 0)], .inl [(0, 0), (12, 12), (0, 0), (0, 0), (0, 0), (0, 0), (0, 0), (0, 0), (0, 0), (0, 0), (0, 0), (0, 0), (0, 0), (0, 0), (0, 0), (0, 0), (0, 0), (0, 0), (0, 0), (0, 0), (0, 0), (0, 0), (0, 0), (0, 0), (0, 0), (0, 0), (0, 0), (0, 0), (0, 0), (0, 0), (0, 0), (0, 0), (0, 0), (0, 0), (0, 0), (0, 0), (0, 0), (0, 1), (0, 0), (0, 0), ((-1), (-1)), (0, 0), (0, 0), (0, 0), (0, 0), (0, 0), (0, 0), (0, 0), (0, 0)], .inr (0, 0), .inr (0, 0), .inr (0, 0), .inr (0, 0), .inr (0, 0), .inr (0, 0), .inr (0, 0), .inr (0, 0), .inr (0, 0), .inr (0, 0), .inr (0, 0), .inr (0, 0), .inr (0, 0), .inr (0, 0), .inr (0, 0), .inr (0, 0), .inr (0, 0), .inr (0, 0), .inr (0, 0), .inr (0, 0), .inr (0, 0), .inr (0, 0), .inr (0, 0), .inr (0, 0), .inr (0, 0), .inr (0, 0), .inr (0, 0), .inr (0, 0), .inr (0, 0), .inr (0, 0), .inr (0, 0), .inr (0, 0), .inr (0, 0), .inr (0, 0), .inr (0, 0), .inr (0, 0), .inr (0, 0), .inr (0, 0), .inr (0, 0), .inr (0, 0), .inr (0, 0), .inr (0, 0), .inr (0, 0), .inr (0, 0), .inr (0, 0), .inr (0, 0), .inr (0, 0), .inr (0, 0), .inr (0, 0), .inr (0, 0), .inr (0, 0), .inr (0, 0), .inr (0, 0), .inr (0, 0), .inr (0, 0), .inr (0, 0), .inr (0, 0), .inr (0, 0), .inr (0, 0), .inr (0, 0), .inr (0, 0)]
def tF_2 : List tv_C := [(2, [(3, 1, 1)], [], [((1, 12, 12), [])], [], 1)]
def tF_91 : List tv_C := [(91, [(3, 6, 6)], [], [((3, 7, 7), [])], [], 1)]
def tF_92 : List tv_C := [(92, [(3, 7, 7)], [], [((1, 0, 0), [])], [], 1), (92, [(3, 8, 8)], [], [((1, 0, 0), [])], [], 1)]
def tF_95 : List tv_C := [(95, [(3, 0, 0), (1, 0, 0)], [], [((1, 0, 0), [])], [], 2), (95, [(3, 0, 0), (1, 1, 2147483647)], [], [((1, (-1), (-1)), [])], [], 2), (95, [(3, 0, 0), (1, (-2147483648), (-1))], [], [((1, (-1), (-1)), [])], [], 1)]
def tF_96 : List tv_C := [(96, [(3, 7, 7), (1, (-2147483648), 2147483647)], [], [((0, 0, 0), [])], [], 1), (96, [(3, 8, 8), (1, (-2147483648), 2147483647)], [], [((0, 0, 0), [])], [], 1)]
def tF_100 : List tv_C := [(100, [(3, 8, 8), (1, (-2147483648), 2147483647)], [], [((1, (-1), (-1)), [])], [], 1)]
def tF_115 : List tv_C := [(115, [(3, 9, 9)], [], [((1, 0, 0), [])], [], 1)]
def tF_122 : List tv_C := [(122, [(3, 9, 9)], [], [((1, 0, 0), [])], [], 1), (122, [(3, 10, 10)], [], [((1, 0, 0), [])], [], 1)]
def tF_135 : List tv_C := [(135, [(3, 9, 9), (1, 12, 12)], [(4, [(3, 9, 9), (1, 12, 12), (1, 0, 0), (1, 0, 0)], [(0, 0, 0), (0, 0, 0), (0, 0, 0), (0, 0, 0), (0, 0, 0)])], [((1, 0, 0), [])], [], 1)]
def tF_139 : List tv_C := [(139, [(3, 9, 9), (1, 12, 12)], [(4, [(3, 9, 9), (1, 12, 12), (1, 0, 0), (1, 0, 0)], [(0, 0, 0), (0, 0, 0), (0, 0, 0), (0, 0, 0), (0, 0, 0)])], [((1, 0, 0), [])], [], 1)]
def tF_140 : List tv_C := [(140, [(3, 0, 0), (1, (-2147483648), 2147483647), (1, (-2147483648), 2147483647)], [], [((1, (-1), (-1)), [])], [], 2)]
def tF_141 : List tv_C := [(141, [(3, 9, 9), (1, (-2147483648), 2147483647)], [], [((1, 0, 0), [])], [], 1), (141, [(3, 10, 10), (1, (-2147483648), 2147483647)], [], [((1, 0, 0), [])], [], 1)]
def tF_146 : List tv_C := [(146, [(3, 0, 0), (1, (-2147483648), 2147483647), (1, (-2147483648), 2147483647)], [], [((1, (-1), (-1)), [])], [], 2)]
def tF_147 : List tv_C := [(147, [(3, 0, 0), (1, (-2147483648), 2147483647)], [(4, [(3, 0, 0), (1, (-2147483648), 2147483647), (1, 0, 0), (1, 0, 0), (0, 0, 0)], [(0, 0, 0), (0, 0, 0), (0, 0, 0), (0, 0, 0), (0, 0, 0)])], [((1, 0, 0), [])], [], 2)]
def tF_148 : List tv_C := [(148, [(3, 0, 0), (1, (-2147483648), 2147483647), (1, (-2147483648), 2147483647)], [], [((1, (-1), (-1)), [])], [], 2)]
def tF_150 : List tv_C := [(150, [(3, 0, 0), (1, (-2147483648), 2147483647), (1, (-2147483648), 2147483647)], [], [((1, 0, 0), [])], [], 2)]
def tF_151 : List tv_C := [(151, [(3, 0, 0)], [], [((1, 0, 0), [])], [], 2)]
def tF_152 : List tv_C := [(152, [(3, 9, 9), (3, 8, 8), (1, 3, 12)], [(2, [(3, 9, 9), (3, 8, 8), (1, 3, 12), (1, 0, 0)], [(0, 0, 1), (0, 0, 0), (0, 0, 0), (0, 0, 0), (0, 0, 0)]), (25, [(3, 9, 9), (3, 8, 8), (1, 3, 12), (1, 0, 0)], [(0, 0, 0), (0, 0, 0), (0, 0, 0), (0, 0, 0), (0, 0, 0)])], [((0, 0, 0), [])], [], 1), (152, [(3, 10, 10), (3, 8, 8), (1, 3, 12)], [(2, [(3, 10, 10), (3, 8, 8), (1, 3, 12), (1, 0, 0)], [(0, 0, 1), (0, 0, 0), (0, 0, 0), (0, 0, 0), (0, 0, 0)]), (25, [(3, 10, 10), (3, 8, 8), (1, 3, 12), (1, 0, 0)], [(0, 0, 0), (0, 0, 0), (0, 0, 0), (0, 0, 0), (0, 0, 0)])], [((0, 0, 0), [])], [], 1)]
def tF_157 : List tv_C := [(157, [(3, 0, 0), (1, (-2147483648), 2147483647)], [], [((1, (-1), (-1)), [])], [], 2)]
def tF_158 : List tv_C := [(158, [(3, 0, 0)], [], [((1, 0, 0), [])], [(7, 1), (29, 64)], 41)]
def tF_186 : List tv_C := [(186, [(3, 11, 11), (1, (-2147483648), 2147483647)], [], [((1, 0, 0), []), ((1, 1, 1), [(1, 0, 5)])], [], 1)]
def tF_187 : List tv_C := [(187, [(3, 11, 11), (1, (-2147483648), 2147483647), (1, (-2147483648), 2147483647), (1, (-2147483648), 2147483647), (1, (-2147483648), 2147483647)], [], [((1, (-1), (-1)), [])], [(11, 0)], 3)]
def tF_188 : List tv_C := [(188, [(3, 11, 11), (1, (-2147483648), 2147483647)], [], [((1, 0, 0), [])], [], 2)]
def tF_192 : List tv_C := [(192, [(3, 11, 11), (1, (-2147483648), 2147483647), (1, (-2147483648), 2147483647)], [], [((1, (-1), (-1)), [])], [(11, 0)], 3)]
def tF_195 : List tv_C := [(195, [(3, 11, 11), (1, (-2147483648), 2147483647), (1, (-2147483648), 2147483647)], [], [((1, (-1), (-1)), [])], [(11, 0)], 3)]
def tF_196 : List tv_C := [(196, [(3, 11, 11), (1, (-2147483648), 2147483647), (1, (-2147483648), 2147483647)], [], [((1, (-1), (-1)), [])], [(11, 0)], 3)]
def tF_200 : List tv_C := [(200, [(3, 11, 11), (1, (-2147483648), 2147483647)], [], [((1, (-1), (-1)), [])], [(11, 0)], 3)]
def tF_211 : List tv_C := [(211, [(3, 11, 11), (1, 0, 3)], [(42, [(3, 11, 11), (1, 2, 3), (1, 0, 0), (1, 0, 0), (1, 0, 0), (0, 0, 0)], [(0, 0, 0), (0, 0, 0), (0, 0, 0), (0, 0, 0), (0, 0, 0)])], [((1, 0, 0), [])], [(11, 0)], 1), (211, [(3, 11, 11), (1, 4, 2147483647)], [], [((1, (-1), (-1)), [])], [(11, 0)], 1), (211, [(3, 11, 11), (1, (-2147483648), (-1))], [], [((1, (-1), (-1)), [])], [(11, 0)], 1)]
def tF_215 : List tv_C := [(215, [(3, 11, 11), (1, (-2147483648), 2147483647), (1, (-2147483648), 2147483647)], [], [((1, (-1), (-1)), [])], [(11, 0)], 2)]
def tF_216 : List tv_C := [(216, [(3, 11, 11), (1, (-2147483648), 2147483647)], [], [((1, 0, 0), [])], [], 1)]
def tF_218 : List tv_C := [(218, [(3, 11, 11), (1, (-2147483648), 2147483647), (1, (-2147483648), 2147483647)], [], [((1, (-1), (-1)), [])], [(11, 0)], 2)]
def tF_220 : List tv_C := [(220, [(3, 11, 11), (1, (-2147483648), 2147483647)], [(9, [(3, 11, 11), (1, (-2147483648), 2147483647), (1, 0, 0), (1, 0, 0)], [(0, 0, 0), (0, 0, 0), (0, 0, 0), (0, 0, 0), (0, 0, 0)])], [((1, 0, 0), [])], [(11, 0)], 1)]
def tF_221 : List tv_C := [(221, [(3, 11, 11), (1, (-2147483648), 2147483647), (1, (-2147483648), 2147483647)], [], [((1, (-1), (-1)), [])], [(11, 0)], 2)]
def tF_222 : List tv_C := [(222, [(3, 11, 11), (1, (-2147483648), 2147483647), (1, (-2147483648), 2147483647)], [], [((1, 0, 0), [])], [(11, 0)], 2)]
def tF_225 : List tv_C := [(225, [(3, 11, 11), (1, 0, 0)], [], [((1, 0, 0), [])], [(11, 0), (11, 32)], 1), (225, [(3, 11, 11), (1, 1, 2147483647)], [], [((1, (-1), (-1)), [])], [(11, 0)], 1), (225, [(3, 11, 11), (1, (-2147483648), (-1))], [], [((1, (-1), (-1)), [])], [(11, 0)], 1)]
def tF_226 : List tv_C := [(226, [(3, 11, 11)], [(31, [(3, 11, 11), (1, 0, 0)], [(0, 0, 0), (0, 0, 0), (0, 0, 0), (0, 0, 0), (0, 0, 0)])], [((1, 0, 0), [])], [(11, 0), (11, 32)], 1)]
def tF_227 : List tv_C := [(227, [(3, 11, 11), (1, (-2147483648), 2147483647)], [], [((1, (-1), (-1)), [])], [(11, 0)], 1)]
def tF_228 : List tv_C := [(228, [(3, 11, 11)], [(12, [(3, 11, 11), (1, 0, 0), (0, 0, 0)], [(0, 0, 1), (0, 0, 0), (0, 0, 0), (0, 0, 0), (0, 0, 0)]), (105, [(3, 11, 11), (1, 0, 0), (0, 0, 0)], [(0, 0, 0), (0, 0, 0), (0, 0, 0), (0, 0, 0), (0, 0, 0)])], [((1, 0, 0), [])], [(11, 0), (11, 34)], 1)]
def tF_243 : List tv_C := [(243, [(3, 11, 11), (1, 0, 0)], [], [((1, 0, 0), [])], [(11, 0)], 1), (243, [(3, 11, 11), (1, 1, 2147483647)], [], [((1, (-1), (-1)), [])], [(11, 0)], 1), (243, [(3, 11, 11), (1, (-2147483648), (-1))], [], [((1, (-1), (-1)), [])], [(11, 0)], 1)]
def tF_l : List (Nat × List tv_C) := [(2, tF_2), (91, tF_91), (92, tF_92), (95, tF_95), (96, tF_96), (100, tF_100), (115, tF_115), (122, tF_122), (135, tF_135), (139, tF_139), (140, tF_140), (141, tF_141), (146, tF_146), (147, tF_147), (148, tF_148), (150, tF_150), (151, tF_151), (152, tF_152), (157, tF_157), (158, tF_158), (186, tF_186), (187, tF_187), (188, tF_188), (192, tF_192), (195, tF_195), (196, tF_196), (200, tF_200), (211, tF_211), (215, tF_215), (216, tF_216), (218, tF_218), (220, tF_220), (221, tF_221), (222, tF_222), (225, tF_225), (226, tF_226), (227, tF_227), (228, tF_228), (243, tF_243)]
def tF_h (j : Nat) : List tv_C := match j with
  | 159 => [(159, [(3, 7, 7), (3, 8, 8)], [], [((0, 0, 0), [])], [(7, 1), (29, 64)], 40)]
  | _ => []
def tF_x (j : Nat) : List tv_C := tc_lk j tF_l ++ tF_h j
set_option maxRecDepth 100000 in
set_option maxHeartbeats 4000000 in
theorem tF_c : tc_ok tF_T tF_x tF_l = true := by decide +kernel
set_option maxRecDepth 100000 in
set_option maxHeartbeats 4000000 in
theorem tF_copy : tv_Snd (tF_T) (159, [(3, 7, 7), (3, 8, 8)], [], [((0, 0, 0), [])], [(7, 1), (29, 64)], 40) := by
  intro As σ hva hT
  obtain ⟨x0, x1, rfl, h0, h1⟩ := tv_va2 hva
  obtain ⟨k0, rfl, l0, u0⟩ := h0
  obtain rfl : k0 = 7 := by omega
  obtain ⟨k1, rfl, l1, u1⟩ := h1
  obtain rfl : k1 = 8 := by omega
  show WP 40 159 0 [(0, .ref 7), (1, .ref 8)] [] σ _
  refine wp_lda rfl tm_m1 ?_
  refine wq_getr (p := 30) rfl rfl (f := 0) rfl rfl ?_
  refine wq_con (x := 0) rfl (by decide) ?_
  refine wp_lda rfl tm_m0 ?_
  refine wq_getr (p := 29) rfl rfl (f := 0) rfl rfl ?_
  refine wq_con (x := 0) rfl (by decide) ?_
  refine wp_lda rfl tm_m1 ?_
  refine wq_geti rfl rfl (f := 1) rfl rfl (Or.inl rfl) ?_
  have g := hT.1 8 1
  have g0 : 0 ≤ (σ.1 8 1).toInt := g.1
  have g1 : (σ.1 8 1).toInt ≤ 0 := g.2
  have gc := tn_cl g0
  refine wp_cpy rfl rfl rfl (by decide) (by decide) (by rw [tn_ltI]; show ¬ (σ.1 8 1).toInt < 0; omega) (by show 0 + _ ≤ 800; omega) (by show 0 + _ ≤ 800; omega) (by decide) (by decide) th_sys ?_
  refine wp_lda rfl tm_m0 ?_
  refine wp_lda rfl tm_m1 ?_
  refine wq_geti rfl rfl (f := 1) rfl rfl (Or.inl rfl) ?_
  refine wq_puti rfl rfl (f := 1) rfl rfl ?_
  refine wp_retv rfl (tv_Qc1 (tv_TY_sI (tv_TY_sA hT (fun j => ?_)) g0 g1) (tv_un_tr (tv_un_sA rfl rfl) (tv_un_fI rfl)) tv_rvn)
  unfold va_cpy
  split
  · exact hT.1 30 _
  · exact hT.1 29 _
theorem tF_s : ∀ a, ∀ c ∈ tF_x a, tv_Snd tF_T c := tc_sys (fun a c hc => by
  rcases List.mem_append.mp hc with h | h
  · exact Or.inl ⟨400, tc_ok_mem tF_c h⟩
  · refine Or.inr (fun _ => ?_)
    unfold tF_h at h
    split at h <;> simp only [List.mem_cons, List.not_mem_nil, or_false] at h
    subst h
    exact ⟨tF_copy, by decide⟩)
/-- a context with one answer -/
theorem tF_one {j R : Nat} {a : List tv_T} {z : Int} {ws : List (Nat × Nat)} {As : List Value} {σ : tm_S} {w : Int32} (hz : (tF_x j).any (tc_eqc (j, a, [], [((1, z, z), [])], ws, R)) = true) (hw : w.toInt = z) (hva : tv_va a As) (hT : tv_TY tF_T σ) : WM R j As σ (fun r σ' => r = some (.int w) ∧ tv_TY tF_T σ') := by
  obtain ⟨c, hc, he⟩ := List.any_eq_true.mp hz
  have hs := tc_get (tF_s j c hc) he
  refine WM.mono (hs As σ hva hT) ?_
  rintro r s ⟨h1, h2, q, hq, hr, -⟩
  change q ∈ [((1, z, z), [])] at hq
  rw [List.mem_singleton] at hq
  subst hq
  rcases hr with ⟨e, -⟩ | ⟨x, rfl, hx⟩
  · cases e
  · obtain ⟨y, rfl, g1, g2⟩ := hx
    refine ⟨?_, h1⟩
    rw [Int32.toInt_inj.mp (show y.toInt = w.toInt by omega)]
/-- what the table says of a place -/
theorem tF_v {σ : tm_S} (hT : tv_TY tF_T σ) {k j : Nat} {w : Int32} (h : tv_ti tF_T k j = (w.toInt, w.toInt)) : σ.1 k j = w := by
  have h1 := hT.1 k j
  rw [h] at h1
  exact Int32.toInt_inj.mp (Int.le_antisymm h1.2 h1.1)
set_option maxRecDepth 100000 in
set_option maxHeartbeats 4000000 in
theorem tF_in : ∀ k, k < 12 → ∀ j, j < 49 → (tv_ti tF_T k j).1 ≤ ((lw_σ (fun _ => 0)).1 k j).toInt ∧ ((lw_σ (fun _ => 0)).1 k j).toInt ≤ (tv_ti tF_T k j).2 := by decide +kernel
def tF_lb (e : List (Int × Int) ⊕ (Int × Int)) : Bool := match e with
  | .inl l => Nat.ble l.length 49
  | .inr _ => false
theorem tF_len : ∀ k, k < 12 → (tF_T[k]?.elim false tF_lb) = true := by decide +kernel
theorem tF_zz : (tF_T.drop 12).all lw_zt = true := by decide +kernel
/-- the first store is of the table -/
theorem tF_st {g : Nat → Int64} : tv_TY tF_T (lw_σ g) := by
  have t0 : (0 : Int32).toInt = 0 := by decide
  have hd : (tv_lo ≤ 0) ∧ (0 ≤ tv_hi) := ⟨by decide, by decide⟩
  have hq : ∀ q : Int × Int, lw_zr q = true → q.1 ≤ 0 ∧ 0 ≤ q.2 := fun q h => by
    unfold lw_zr at h
    rw [Bool.and_eq_true] at h
    exact ⟨lw_le h.1, lw_le h.2⟩
  refine ⟨fun k j => ?_, fun q hq => ?_⟩
  · by_cases hk : k < 12
    · by_cases hj : j < 49
      · exact tF_in k hk j hj
      · have h := tF_len k hk
        have r := tn_rng ((lw_σ g).1 k j)
        unfold tv_ti
        cases hk2 : tF_T[k]? with
        | none => exact r
        | some e =>
          rw [hk2] at h
          cases e with
          | inl l =>
            have hl : l.length ≤ 49 := Nat.le_of_ble_eq_true h
            show (l.getD j (tv_lo, tv_hi)).1 ≤ _ ∧ _ ≤ (l.getD j (tv_lo, tv_hi)).2
            rw [List.getD_eq_getElem?_getD, List.getElem?_eq_none (by omega)]
            exact r
          | inr q => cases h
    · have e : (lw_σ g).1 k = fun _ => 0 := (if_neg (by omega)).trans ((if_neg (by omega)).trans (if_neg (by omega)))
      rw [e, t0]
      unfold tv_ti
      cases hk2 : tF_T[k]? with
      | none => exact hd
      | some e =>
        have hm : e ∈ tF_T.drop 12 := List.mem_of_getElem? (i := k - 12) (by rw [List.getElem?_drop, show 12 + (k - 12) = k by omega]; exact hk2)
        have he := List.all_eq_true.mp tF_zz e hm
        cases e with
        | inl l =>
          show (l.getD j (tv_lo, tv_hi)).1 ≤ 0 ∧ 0 ≤ (l.getD j (tv_lo, tv_hi)).2
          by_cases hj : j < l.length
          · rw [List.getD_eq_getElem?_getD, List.getElem?_eq_getElem hj]
            exact hq _ (List.all_eq_true.mp he _ (List.getElem_mem hj))
          · rw [List.getD_eq_getElem?_getD, List.getElem?_eq_none (by omega)]
            exact hd
        | inr q => exact hq q he
  · rcases List.mem_cons.mp hq with rfl | hq
    · exact ⟨show (9 : Nat) ≤ 9 by decide, show (9 : Nat) ≤ 10 by decide⟩
    · rcases List.mem_cons.mp hq with rfl | hq
      · exact ⟨show (9 : Nat) ≤ 10 by decide, show (10 : Nat) ≤ 10 by decide⟩
      · rcases List.mem_cons.mp hq with rfl | hq
        · exact ⟨show (73 : Nat) ≤ 80 by decide, show (80 : Nat) ≤ 81 by decide⟩
        · exact absurd hq List.not_mem_nil
