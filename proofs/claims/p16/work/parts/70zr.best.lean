/-! ===== the pair of which there are most ===== -/
def zk_st (P : Int → Int → Int) (R : Int → Int → Bool) (a b : Int) (s : Int × Int) : Int × Int := if s.2 < P a b ∧ R a b = true then (20 * a + b, P a b) else s
def zk_rwF (P : Int → Int → Int) (R : Int → Int → Bool) (a : Int) (s : Int × Int) : Nat → Int × Int
  | 0 => s
  | k + 1 => zk_st P R a k (zk_rwF P R a s k)
def zk_rw (P : Int → Int → Int) (R : Int → Int → Bool) (a : Int) (s : Int × Int) (b : Int) : Int × Int := zk_rwF P R a s b.toNat
def zk_alF (P : Int → Int → Int) (R : Int → Int → Bool) (n : Int) : Nat → Int × Int
  | 0 => (-4, 0)
  | k + 1 => zk_rw P R k (zk_alF P R n k) n
def zk_all (P : Int → Int → Int) (R : Int → Int → Bool) (n a : Int) : Int × Int := zk_alF P R n a.toNat
section ZKB
variable {P P' : Int → Int → Int} {R R' : Int → Int → Bool} {n a b : Int} {s : Int × Int}
theorem zk_rw_0 : zk_rw P R a s 0 = s := rfl
theorem zk_rw_s (h : 0 ≤ b) : zk_rw P R a s (b + 1) = zk_st P R a b (zk_rw P R a s b) := by
  obtain ⟨k, rfl⟩ := Int.eq_ofNat_of_zero_le h
  rfl
theorem zk_all_0 : zk_all P R n 0 = (-4, 0) := rfl
theorem zk_all_s (h : 0 ≤ a) : zk_all P R n (a + 1) = zk_rw P R a (zk_all P R n a) n := by
  obtain ⟨k, rfl⟩ := Int.eq_ofNat_of_zero_le h
  rfl
theorem zk_st_y (h : s.2 < P a b ∧ R a b = true) : zk_st P R a b s = (20 * a + b, P a b) := if_pos h
theorem zk_st_n (h : ¬ (s.2 < P a b ∧ R a b = true)) : zk_st P R a b s = s := if_neg h
theorem zk_rw_c (hP : ∀ b, 0 ≤ b → b < n → P a b = P' a b) : ∀ k : Nat, (k : Int) ≤ n → zk_rwF P R a s k = zk_rwF P' R a s k := by
  intro k
  induction k with
  | zero => intro _; rfl
  | succ k ih =>
    intro h
    show zk_st P R a k (zk_rwF P R a s k) = zk_st P' R a k (zk_rwF P' R a s k)
    rw [ih (by omega)]
    unfold zk_st
    rw [hP k (by omega) (by omega)]
theorem zk_all_c (n0 : 0 ≤ n) (hP : ∀ a b, 0 ≤ a → a < n → 0 ≤ b → b < n → P a b = P' a b) : ∀ k : Nat, (k : Int) ≤ n → zk_alF P R n k = zk_alF P' R n k := by
  intro k
  induction k with
  | zero => intro _; rfl
  | succ k ih =>
    intro h
    show zk_rwF P R k (zk_alF P R n k) n.toNat = zk_rwF P' R k (zk_alF P' R n k) n.toNat
    rw [ih (by omega)]
    exact zk_rw_c (n := n) (fun b b0 b1 => hP k b (by omega) (by omega) b0 b1) n.toNat (by omega)
theorem zk_all_e (n0 : 0 ≤ n) (hP : ∀ a b, 0 ≤ a → a < n → 0 ≤ b → b < n → P a b = P' a b) : zk_all P R n n = zk_all P' R n n := zk_all_c n0 hP n.toNat (by omega)
end ZKB
noncomputable def zk_Pc (σ : zq_S) (e : Int) : Int → Int → Int := fun a b => zk_P (fun x => zk_b (zk_c σ a b x)) e 0
noncomputable def zk_Pr (ρ : zq_S) (e : Int) : Int → Int → Int := fun a b => zk_P (fun x => zk_b (zk_r ρ a b x)) e 0
/-- whether there is room -/
def zk_Rc (σ : zq_S) (R : Int → Int → Bool) : Prop := ∀ a b v, 0 ≤ a → a < σ 3 3 → 0 ≤ b → b < σ 3 3 → zu_rc σ (σ 10 a) (σ 10 b) v → (R a b = true ↔ 0 ≤ v)
def zk_Rr (ρ : zq_S) (R : Int → Int → Bool) : Prop := ∀ a b v, 0 ≤ a → a < ρ 0 3 → 0 ≤ b → b < ρ 0 3 → zt_rr ρ a b v → (R a b = true ↔ 0 ≤ v)
noncomputable def zk_R (ρ : zq_S) : Int → Int → Bool := fun a b => zk_b (∃ u, zt_rr ρ a b u ∧ 0 ≤ u)
theorem zk_Rr_R (ρ : zq_S) : zk_Rr ρ (zk_R ρ) := fun a b v _ _ _ _ h => by
  constructor
  · intro q
    by_cases c : ∃ u, zt_rr ρ a b u ∧ 0 ≤ u
    · obtain ⟨u, hu, u0⟩ := c
      have e : u = v := zt_room_u hu h
      omega
    · exact absurd q (zk_b_n c)
  · intro q
    exact zk_b_y ⟨v, h, q⟩
theorem zu_room_to {σ ρ : zq_S} {a c x y q : Int} (hT : zc_T σ) (hx : zx_T ρ) (h : zu_T3 σ ρ) (b32 : σ 3 2 = ρ 0 2) (ka : zc_kd a = 4) (kc : zc_kd c = 4) (ha : zu_or σ ρ a x) (hc : zu_or σ ρ c y) (h1 : zu_rc σ a c q) (q0 : 0 ≤ q) : zt_rr ρ x y q := by
  have cc := zu_cfr hT hx ka kc ha hc
  unfold zu_rc at h1
  unfold zt_rr
  by_cases g : zt_cr ρ x y
  · have hi := g.2.2.2.2.2
    have e4 : zt_fw (σ (a + 1)) (σ (c + 1)) 4 = zt_rb ρ x y := by rw [zu_rb]; exact zu_fw hx ha hc hi 4 (by decide)
    rw [e4, b32] at h1
    have zb := zx_g2 hx
    have rp : 0 ≤ zt_rb ρ x y := by rw [← e4]; have := zt_fw_le (σ (a + 1)) (σ (c + 1)) (j := 0) (m := 4) (by decide) (by decide); rw [zt_fw_0] at this; exact this
    refine zt_room_c (h := fun y => σ 11 y = -1) (h' := zt_hl ρ) (F' := zt_cr ρ x y ∧ zt_rb ρ x y < ρ 0 2) ⟨fun w => ⟨cc.mp w.1, w.2⟩, fun w => ⟨cc.mpr w.1, w.2⟩⟩ (fun w m m0 m1 => zx_blk ⟨m, Int.mul_comm _ _⟩ m1 rp (Int.le_of_lt w.2)) (by have := zx_p2_pos (zt_rb ρ x y); omega) (fun n n0 n1 => ?_) h1
    have bb := h.2.2.2.2 n n0 n1
    constructor
    · intro w
      exact (bb.1 (by omega)).2
    · intro w
      by_cases d : σ 11 n < 0
      · exact (bb.1 d).1
      · obtain ⟨b1, b2⟩ := bb.2 (by omega)
        exact absurd b2 (w _ (by omega) b1)
  · have e1 := zu_room_n (fun w => g (cc.mp w.1)) h1
    omega
theorem zk_Rc_R {σ ρ : zq_S} (hT : zc_T σ) (hx : zx_T ρ) (h : zu_T3 σ ρ) (e2 : σ 3 2 = ρ 0 2) : zk_Rc σ (zk_R ρ) := fun a b v a0 a1 b0 b1 hv => by
  have e3 := h.1.1
  have z3 := zx_g3 hx
  have ka := zc_ga10 hT zc_s10 a a0 (by omega)
  have kb := zc_ga10 hT zc_s10 b b0 (by omega)
  have oa := h.2.2.1 a a0 (by omega)
  have ob := h.2.2.1 b b0 (by omega)
  constructor
  · intro q
    by_cases c : ∃ u, zt_rr ρ a b u ∧ 0 ≤ u
    · obtain ⟨u, hu, u0⟩ := c
      have e : v = u := zu_room hT hx h e2 ka kb oa ob hv hu
      omega
    · exact absurd q (zk_b_n c)
  · intro q
    exact zk_b_y ⟨v, zu_room_to hT hx h e2 ka kb oa ob hv q, q⟩
theorem zk_bestL {σ ρ : zq_S} {e u v : Int} (hT : zc_T σ) (hx : zx_T ρ) (hK : zx_K ρ) (hT3 : zu_T3 σ ρ) (hT4 : zu_T4 σ ρ) (e2 : σ 3 2 = ρ 0 2) (gp : zq_hid ((¬ (0 ≤ e ∧ e ≤ 64) → v = -1) ∧ (0 ≤ e ∧ e ≤ 64 → ∀ R, zk_Rc σ R → v = (zk_all (zk_Pc σ e) R (σ 3 3) (σ 3 3)).1))) (kw : zq_hid ((¬ (0 ≤ e ∧ e ≤ 64) → u = -1) ∧ (0 ≤ e ∧ e ≤ 64 → ∀ R, zk_Rr ρ R → u = (zk_all (zk_Pr ρ e) R (ρ 0 3) (ρ 0 3)).1))) : u = v := by
  have e3 := hT3.1.1
  have z3 := zx_g3 hx
  by_cases c : 0 ≤ e ∧ e ≤ 64
  · rw [kw.2 c _ (zk_Rr_R ρ), gp.2 c _ (zk_Rc_R hT hx hT3 e2), e3]
    rw [zk_all_e (P := zk_Pc σ e) (P' := zk_Pr ρ e) z3.1 (fun a b a0 a1 b0 b1 => zk_PP hx hK hT3 hT4 a0 a1 b0 b1 c.2)]
  · rw [kw.1 c, gp.1 c]
theorem zk_r_fr {σ τ : zq_S} {a b x : Int} (h2 : ∀ i, τ 2 i = σ 2 i) (h14 : ∀ i, τ 14 i = σ 14 i) (e2 : τ 0 2 = σ 0 2) (e3 : τ 0 3 = σ 0 3) : zk_r τ a b x ↔ zk_r σ a b x := by
  unfold zk_r
  rw [h14, h14, zk_ra_fr h2 e2]
  constructor
  · rintro ⟨p, q, r⟩
    exact ⟨zt_ow_fr (fun i => (h2 i).symm) e3.symm e2.symm p, zt_ow_fr (fun i => (h2 i).symm) e3.symm e2.symm q, r⟩
  · rintro ⟨p, q, r⟩
    exact ⟨zt_ow_fr h2 e3 e2 p, zt_ow_fr h2 e3 e2 q, r⟩
theorem zk_Pr_fr {σ τ : zq_S} {e a b : Int} (h2 : ∀ i, τ 2 i = σ 2 i) (h14 : ∀ i, τ 14 i = σ 14 i) (e2 : τ 0 2 = σ 0 2) (e3 : τ 0 3 = σ 0 3) : zk_P (fun x => zk_b (zk_r τ a b x)) e 0 = zk_Pr σ e a b := zk_P_c (fun x _ _ => zk_b_c (zk_r_fr h2 h14 e2 e3)) (Int.le_refl _)
