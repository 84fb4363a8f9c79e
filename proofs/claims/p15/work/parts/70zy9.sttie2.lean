/-! ===== the stepper: the tie ===== -/
section ZSR
variable {σ : zq_S} {i : Int}
end ZSR
/-- the mask -/
theorem zs_mk1 (k : Nat) (M : Int) (hk : k ≤ 30) (hM : M = 2 ^ k) (h2 : 2 ≤ M) (h256 : M ≤ 256) : (1 ≤ M - 1 ∧ M - 1 ≤ 255 ∧ ∀ x, 0 ≤ x → x ≤ M - 1 → zq_and x (M - 1) = x) ∧ (∀ x, 0 ≤ zq_and x (M - 1) ∧ zq_and x (M - 1) ≤ M - 1) ∧ (∀ x y, 0 ≤ x → x ≤ M - 1 → 0 ≤ y → y ≤ M - 1 → (0 ≤ zq_or x y ∧ zq_or x y ≤ M - 1) ∧ (0 ≤ zq_xor x y ∧ zq_xor x y ≤ M - 1)) := by
  refine ⟨⟨by omega, by omega, fun x x0 x1 => ?_⟩, fun x => ?_, fun x y x0 x1 y0 y1 => ⟨?_, ?_⟩⟩
  · have z := zq_and_mask x k (M - 1) M hk (by rw [hM]) hM
    rw [z.1]
    exact Int.emod_eq_of_lt x0 (by omega)
  · have z := zq_and_mask x k (M - 1) M hk (by rw [hM]) hM
    omega
  · have z := zq_or_b (x := x) (y := y) k M hk hM (by omega) (by omega)
    omega
  · have z := zq_xor_b (x := x) (y := y) k M hk hM (by omega) (by omega)
    omega
