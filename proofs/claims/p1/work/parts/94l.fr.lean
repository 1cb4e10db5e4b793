/-! ===== what is known at the first call ===== -/
def lw_F1 (σ : tm_S) : Prop := th_IV 12 σ ∧ th_I2 12 σ ∧ th_I3 12 σ ∧ th_I4 12 σ ∧ tv_TY tF_T σ ∧ (∀ k : Nat, k < 6 → σ.2.1 12 k = -1) ∧ σ.2.2 0 8 = 9 ∧ σ.2.2 6 1 = 10
theorem lw_f1st {g : Nat → Int64} (hg : (∀ k : Nat, g k = 0 ∨ g k = -1) ∧ ∀ k : Nat, k < 6 → g k = -1) : lw_F1 (lw_σ g) := ⟨lw_IV hg.1, lw_I2 hg.1, lw_I3 hg.1, lw_I4 hg.1, tF_st, fun k hk => hg.2 k hk, rfl, rfl⟩
