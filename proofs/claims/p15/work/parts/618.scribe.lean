/-! ===== orders, as they are read ===== -/
def zt_fl (c : Int) : Int := if c = 100 then 0 else if c = 115 then 1 else if c = 116 then 2 else if c = 105 then 3 else -1
theorem zt_fl_b (c : Int) : -1 ≤ zt_fl c ∧ zt_fl c ≤ 3 ∧ (0 ≤ zt_fl c → 100 ≤ c) ∧ (zt_fl c = 3 ↔ c = 105) := by
  unfold zt_fl
  repeat' split
  all_goals omega
/-- which FIELDS a LOOK has, by their masks -/
def zt_H (m : Int → Int) : Int → Bool := fun f => decide (0 ≤ f ∧ f ≤ 3 ∧ m f ≠ 0)
theorem zt_H_y {m : Int → Int} {f : Int} (h0 : 0 ≤ f) (h3 : f ≤ 3) (h : m f ≠ 0) : zt_H m f = true := decide_eq_true ⟨h0, h3, h⟩
theorem zt_H_n {m : Int → Int} {f : Int} (h : m f = 0) : ¬ zt_H m f = true := fun q => (of_decide_eq_true q).2.2 h
def zt_fi (H : Int → Bool) (c : Int) : Int := if 0 ≤ zt_fl c ∧ H (zt_fl c) = true then zt_fl c else -1
theorem zt_fi_y {H : Int → Bool} {c : Int} (h : 0 ≤ zt_fl c ∧ H (zt_fl c) = true) : zt_fi H c = zt_fl c := by unfold zt_fi; rw [if_pos h]
theorem zt_fi_n {H : Int → Bool} {c : Int} (h : ¬ (0 ≤ zt_fl c ∧ H (zt_fl c) = true)) : zt_fi H c = -1 := by unfold zt_fi; rw [if_neg h]
theorem zt_fi_b (H : Int → Bool) (c : Int) : -1 ≤ zt_fi H c ∧ zt_fi H c ≤ 3 ∧ (0 ≤ zt_fi H c → 100 ≤ c) := by
  have hb := zt_fl_b c
  unfold zt_fi
  split
  · omega
  · omega
def zt_ns (H : Int → Bool) (c : Int) : Int := if c = 122 then 4 else if c = 112 then 5 else zt_fi H c
theorem zt_ns_b (H : Int → Bool) (c : Int) : -1 ≤ zt_ns H c ∧ zt_ns H c ≤ 5 ∧ (0 ≤ zt_ns H c → 100 ≤ c) := by
  have hb := zt_fi_b H c
  unfold zt_ns
  repeat' split
  all_goals omega
theorem zt_ns_z (H : Int → Bool) {c : Int} (h : c = 122) : zt_ns H c = 4 := by unfold zt_ns; rw [if_pos h]
theorem zt_ns_p (H : Int → Bool) {c : Int} (h : c = 112) : zt_ns H c = 5 := by unfold zt_ns; rw [if_neg (by omega), if_pos h]
theorem zt_ns_f (H : Int → Bool) {c : Int} (h1 : c ≠ 122) (h2 : c ≠ 112) : zt_ns H c = zt_fi H c := by unfold zt_ns; rw [if_neg h1, if_neg h2]
/-- a SIGN's number -/
def zt_sn (c : Int) : Int := if c = 43 then 1 else if c = 45 then 2 else if c = 38 then 3 else if c = 124 then 4 else if c = 94 then 5 else if c = 60 then 6 else 0
theorem zt_sn_b (c : Int) : 0 ≤ zt_sn c ∧ zt_sn c ≤ 6 ∧ (zt_sn c ≠ 0 ↔ c = 43 ∨ c = 45 ∨ c = 38 ∨ c = 124 ∨ c = 94 ∨ c = 60) := by
  unfold zt_sn
  repeat' split
  all_goals omega
section ZTRead
variable (H : Int → Bool) (t : Int → Int) (n a : Int)
def zt_meR : Int := if zt_fi H (zt_nx t n a) = -1 then -1 else if zt_tkR t n 93 (zt_sk t n a + 1) = 0 then -1 else 6 + zt_fi H (zt_nx t n a)
def zt_meA : Int := if zt_fi H (zt_nx t n a) = -1 then zt_sk t n a else zt_tkA t n 93 (zt_sk t n a + 1)
def zt_tgR : Int := if zt_nx t n a = 91 then zt_meR H t n (zt_sk t n a + 1) else if zt_ns H (zt_nx t n a) = -1 ∨ zt_ns H (zt_nx t n a) = 3 then -1 else zt_ns H (zt_nx t n a)
def zt_tgA : Int := if zt_nx t n a = 91 then zt_meA H t n (zt_sk t n a + 1) else if zt_ns H (zt_nx t n a) = -1 ∨ zt_ns H (zt_nx t n a) = 3 then zt_sk t n a else zt_sk t n a + 1
def zt_opR : Int := if zt_nx t n a = 91 then zt_meR H t n (zt_sk t n a + 1) else if zt_ns H (zt_nx t n a) = -1 then (if zt_nuR t n 255 a < 0 then -1 else 16 + zt_nuR t n 255 a) else zt_ns H (zt_nx t n a)
def zt_opA : Int := if zt_nx t n a = 91 then zt_meA H t n (zt_sk t n a + 1) else if zt_ns H (zt_nx t n a) = -1 then zt_nuA t n 255 a else zt_sk t n a + 1
/-- an ACT: behind =, behind the left OPERAND -/
def zt_a2 : Int := zt_sk t n (zt_tgA H t n a) + 1
def zt_a3 : Int := zt_opA H t n (zt_a2 H t n a)
def zt_acL : Int := zt_opR H t n (zt_a2 H t n a)
def zt_acS : Int := if zt_sn (zt_nx t n (zt_a3 H t n a)) = 0 then 0 else zt_nx t n (zt_a3 H t n a)
def zt_acV : Int := if zt_sn (zt_nx t n (zt_a3 H t n a)) = 0 then 0 else zt_opR H t n (zt_sk t n (zt_a3 H t n a) + 1)
def zt_acR : Int := if zt_tgR H t n a = -1 then 0 else if zt_tkR t n 61 (zt_tgA H t n a) = 0 then 0 else if zt_acL H t n a = -1 then 0 else if zt_sn (zt_nx t n (zt_a3 H t n a)) = 0 then 1 else if zt_acV H t n a = -1 then 0 else 1
def zt_acA : Int := if zt_tgR H t n a = -1 then zt_tgA H t n a else if zt_tkR t n 61 (zt_tgA H t n a) = 0 then zt_tkA t n 61 (zt_tgA H t n a) else if zt_acL H t n a = -1 then zt_a3 H t n a else if zt_sn (zt_nx t n (zt_a3 H t n a)) = 0 then zt_sk t n (zt_a3 H t n a) else zt_opA H t n (zt_sk t n (zt_a3 H t n a) + 1)
/-- where the ACTS begin -/
def zt_asF : Nat → Int
  | 0 => a
  | k + 1 => zt_sk t n (zt_acA H t n (zt_asF k)) + 1
def zt_as (j : Int) : Int := zt_asF H t n a j.toNat
def zt_sR : Int := if zt_acR H t n (zt_as H t n a 0) = 0 then 0 else if zt_nx t n (zt_acA H t n (zt_as H t n a 0)) ≠ 44 then 1 else if zt_acR H t n (zt_as H t n a 1) = 0 then 0 else if zt_nx t n (zt_acA H t n (zt_as H t n a 1)) ≠ 44 then 1 else if zt_acR H t n (zt_as H t n a 2) = 0 then 0 else 1
def zt_sA : Int := if zt_acR H t n (zt_as H t n a 0) = 0 then zt_acA H t n (zt_as H t n a 0) else if zt_nx t n (zt_acA H t n (zt_as H t n a 0)) ≠ 44 then zt_sk t n (zt_acA H t n (zt_as H t n a 0)) else if zt_acR H t n (zt_as H t n a 1) = 0 then zt_acA H t n (zt_as H t n a 1) else if zt_nx t n (zt_acA H t n (zt_as H t n a 1)) ≠ 44 then zt_sk t n (zt_acA H t n (zt_as H t n a 1)) else zt_acA H t n (zt_as H t n a 2)
def zt_sN : Int := if zt_nx t n (zt_acA H t n (zt_as H t n a 0)) ≠ 44 then 1 else if zt_nx t n (zt_acA H t n (zt_as H t n a 1)) ≠ 44 then 2 else 3
/-- a GUARD: where its store is named -/
def zt_g2 : Int := zt_tkA t n 33 (zt_tkA t n 63 a)
def zt_gK : Int := if zt_tkR t n 63 a = 0 then 0 else if zt_tkR t n 33 (zt_tkA t n 63 a) = 0 then 1 else 2
def zt_gO : Int := if zt_tkR t n 63 a = 0 then 0 else zt_ns H (zt_nx t n (zt_g2 t n a))
def zt_gR : Int := if zt_tkR t n 63 a = 0 then 1 else if zt_gO H t n a = -1 ∨ zt_gO H t n a = 3 ∨ zt_gO H t n a = 5 then 0 else zt_tkR t n 44 (zt_sk t n (zt_g2 t n a) + 1)
def zt_gA : Int := if zt_tkR t n 63 a = 0 then zt_tkA t n 63 a else if zt_gO H t n a = -1 ∨ zt_gO H t n a = 3 ∨ zt_gO H t n a = 5 then zt_sk t n (zt_g2 t n a) else zt_tkA t n 44 (zt_sk t n (zt_g2 t n a) + 1)
end ZTRead
theorem zt_as_0 (H : Int → Bool) (t : Int → Int) (n a : Int) : zt_as H t n a 0 = a := rfl
theorem zt_as_s (H : Int → Bool) (t : Int → Int) (n a : Int) {j : Int} (h : 0 ≤ j) : zt_as H t n a (j + 1) = zt_sk t n (zt_acA H t n (zt_as H t n a j)) + 1 := by
  unfold zt_as
  rw [show (j + 1).toNat = j.toNat + 1 by omega]
  rfl
theorem zt_meR_b (H : Int → Bool) (t : Int → Int) (n a : Int) : zt_meR H t n a = -1 ∨ (6 ≤ zt_meR H t n a ∧ zt_meR H t n a ≤ 9) := by
  have hb := zt_fi_b H (zt_nx t n a)
  unfold zt_meR
  repeat' split
  all_goals omega
theorem zt_tgR_b (H : Int → Bool) (t : Int → Int) (n a : Int) : -1 ≤ zt_tgR H t n a ∧ zt_tgR H t n a ≤ 9 ∧ zt_tgR H t n a ≠ 3 := by
  have hb := zt_ns_b H (zt_nx t n a)
  have hm := zt_meR_b H t n (zt_sk t n a + 1)
  unfold zt_tgR
  repeat' split
  all_goals omega
/-- which stores an OPERAND names -/
def zt_nmb (x : Int) : Int := if x = 4 then 8 else if x = 5 then 16 else if x = 3 ∨ 16 ≤ x then 0 else if 6 ≤ x then zq_or 32 (if x - 6 = 3 then 0 else zq_shl 1 (x - 6)) else zq_shl 1 x
def zt_nm1 (m T L S V : Int) : Int := if 6 ≤ T then zq_or (zq_or m (zq_or (zt_nmb L) (if S = 0 then 0 else zt_nmb V))) (zt_nmb (T - 6)) else zq_or m (zq_or (zt_nmb L) (if S = 0 then 0 else zt_nmb V))
theorem zt_nm1_bs {m T L S V : Int} (h : 6 ≤ T) (hs : S = 0) : zt_nm1 m T L S V = zq_or (zq_or m (zq_or (zt_nmb L) 0)) (zt_nmb (T - 6)) := by unfold zt_nm1; rw [if_pos h, if_pos hs]
theorem zt_nm1_bn {m T L S V : Int} (h : 6 ≤ T) (hs : ¬ S = 0) : zt_nm1 m T L S V = zq_or (zq_or m (zq_or (zt_nmb L) (zt_nmb V))) (zt_nmb (T - 6)) := by unfold zt_nm1; rw [if_pos h, if_neg hs]
theorem zt_nm1_as {m T L S V : Int} (h : ¬ 6 ≤ T) (hs : S = 0) : zt_nm1 m T L S V = zq_or m (zq_or (zt_nmb L) 0) := by unfold zt_nm1; rw [if_neg h, if_pos hs]
theorem zt_nm1_an {m T L S V : Int} (h : ¬ 6 ≤ T) (hs : ¬ S = 0) : zt_nm1 m T L S V = zq_or m (zq_or (zt_nmb L) (zt_nmb V)) := by unfold zt_nm1; rw [if_neg h, if_neg hs]
def zt_am1 (m T : Int) : Int := if 6 ≤ T then zq_or m 32 else zq_or m (zt_nmb T)
/-- an ACT more, as the class holds it -/
def zt_add (σ τ : zq_S) (b T L S V : Int) : Prop := τ b 6 = σ b 6 + 1 ∧ τ b 12 = zt_nm1 (σ b 12) T L S V ∧ τ b 13 = zt_am1 (σ b 13) T ∧ (∀ j, τ (b + 2) j = if j = σ b 6 then T else σ (b + 2) j) ∧ (∀ j, τ (b + 3) j = if j = σ b 6 then L else σ (b + 3) j) ∧ (∀ j, τ (b + 4) j = if j = σ b 6 then S else σ (b + 4) j) ∧ (∀ j, τ (b + 5) j = if j = σ b 6 then V else σ (b + 5) j)
/-- what is not one ORDER's stays -/
def zd_Own (b : Int) (σ τ : zq_S) : Prop := ∀ a i, 4 ≤ zc_kd a → zc_kd a ≤ 9 → ¬ (b ≤ a ∧ a ≤ b + 5) → τ a i = σ a i
theorem zd_Own_rf (b : Int) (σ : zq_S) : zd_Own b σ σ := fun _ _ _ _ _ => rfl
theorem zd_Ow {b a i v : Int} {σ ρ τ : zq_S} (e : τ = zq_up ρ a i v) (h : b ≤ a ∧ a ≤ b + 5) (hO : zd_Own b σ ρ) : zd_Own b σ τ := fun x y h1 h2 h3 => by
  rw [e, zq_up_ne (fun q => h3 (by rw [q.1]; exact h))]
  exact hO x y h1 h2 h3
theorem zd_Ox {b a i v : Int} {σ ρ τ : zq_S} {k : Nat} (e : τ = zq_up ρ a i v) (hk : zc_kd a = k) (h : (Nat.ble 4 k && Nat.ble k 9) = false) (hO : zd_Own b σ ρ) : zd_Own b σ τ := fun x y h1 h2 h3 => by
  rw [e, zq_up_ne (fun q => by
    rw [q.1, hk] at h1 h2
    rw [Nat.ble_eq_true_of_le h1, Nat.ble_eq_true_of_le h2] at h
    cases h)]
  exact hO x y h1 h2 h3
theorem zd_Oo {b : Int} {σ ρ τ : zq_S} (h : zd_Own b ρ τ) (hO : zd_Own b σ ρ) : zd_Own b σ τ := fun x y h1 h2 h3 => (h x y h1 h2 h3).trans (hO x y h1 h2 h3)
theorem zd_Oc {b : Int} {σ ρ τ : zq_S} {M : List (Nat × Int)} (hf : zc_Fr M ρ τ) (h : M.any (fun q => Nat.ble 4 q.1 && Nat.ble q.1 9) = false) (hO : zd_Own b σ ρ) : zd_Own b σ τ := fun x y h1 h2 h3 => by
  refine (hf x y ?_).trans (hO x y h1 h2 h3)
  unfold zc_out
  rw [List.any_eq_false] at h ⊢
  intro q hq hc
  refine h q hq ?_
  simp only [Bool.and_eq_true, beq_iff_eq] at hc ⊢
  rw [hc.1]
  exact ⟨Nat.ble_eq_true_of_le h1, Nat.ble_eq_true_of_le h2⟩
/-- an array filled, of one ORDER's own -/
theorem zd_Of {b a : Int} {σ ρ τ : zq_S} (h2 : ∀ x i, x ≠ a → τ x i = ρ x i) (h : b ≤ a ∧ a ≤ b + 5) (hO : zd_Own b σ ρ) : zd_Own b σ τ := fun x y h1 h3 h4 => by
  rw [h2 x y (fun q => h4 (by rw [q]; exact h))]
  exact hO x y h1 h3 h4
theorem zt_add_c {σ ρ τ : zq_S} {b T L S V : Int} (e6 : ρ b 6 = σ b 6) (e12 : ρ b 12 = σ b 12) (e13 : ρ b 13 = σ b 13) (e2 : ∀ j, ρ (b + 2) j = σ (b + 2) j) (e3 : ∀ j, ρ (b + 3) j = σ (b + 3) j) (e4 : ∀ j, ρ (b + 4) j = σ (b + 4) j) (e5 : ∀ j, ρ (b + 5) j = σ (b + 5) j) (h : zt_add ρ τ b T L S V) : zt_add σ τ b T L S V := by
  unfold zt_add at h ⊢
  rw [e6, e12, e13] at h
  refine ⟨h.1, h.2.1, h.2.2.1, fun j => ?_, fun j => ?_, fun j => ?_, fun j => ?_⟩
  · rw [h.2.2.2.1 j, e2]
  · rw [h.2.2.2.2.1 j, e3]
  · rw [h.2.2.2.2.2.1 j, e4]
  · rw [h.2.2.2.2.2.2 j, e5]
/-- names and aims, ACT by ACT -/
def zt_nmF (T L S V : Int → Int) (m : Int) : Nat → Int
  | 0 => m
  | k + 1 => zt_nm1 (zt_nmF T L S V m k) (T k) (L k) (S k) (V k)
def zt_nmK (T L S V : Int → Int) (m k : Int) : Int := zt_nmF T L S V m k.toNat
def zt_amF (T : Int → Int) (m : Int) : Nat → Int
  | 0 => m
  | k + 1 => zt_am1 (zt_amF T m k) (T k)
def zt_amK (T : Int → Int) (m k : Int) : Int := zt_amF T m k.toNat
theorem zt_nmK_0 (T L S V : Int → Int) (m : Int) : zt_nmK T L S V m 0 = m := rfl
theorem zt_amK_0 (T : Int → Int) (m : Int) : zt_amK T m 0 = m := rfl
theorem zt_nmK_s (T L S V : Int → Int) (m : Int) {k : Int} (h : 0 ≤ k) : zt_nmK T L S V m (k + 1) = zt_nm1 (zt_nmK T L S V m k) (T k) (L k) (S k) (V k) := by
  unfold zt_nmK
  rw [show (k + 1).toNat = k.toNat + 1 by omega]
  show zt_nm1 (zt_nmF T L S V m k.toNat) (T (k.toNat : Int)) (L (k.toNat : Int)) (S (k.toNat : Int)) (V (k.toNat : Int)) = _
  rw [show (k.toNat : Int) = k by omega]
theorem zt_amK_s (T : Int → Int) (m : Int) {k : Int} (h : 0 ≤ k) : zt_amK T m (k + 1) = zt_am1 (zt_amK T m k) (T k) := by
  unfold zt_amK
  rw [show (k + 1).toNat = k.toNat + 1 by omega]
  show zt_am1 (zt_amF T m k.toNat) (T (k.toNat : Int)) = _
  rw [show (k.toNat : Int) = k by omega]
/-- ACTS that are read: how they end -/
theorem zt_s_fail {H : Int → Bool} {t : Int → Int} {n a j : Int} (hj : 0 ≤ j ∧ j ≤ 2) (h1 : ∀ i, 0 ≤ i → i < j → zt_acR H t n (zt_as H t n a i) ≠ 0) (h2 : ∀ i, 0 ≤ i → i < j → zt_nx t n (zt_acA H t n (zt_as H t n a i)) = 44) (hf : zt_acR H t n (zt_as H t n a j) = 0) : zt_sR H t n a = 0 ∧ zt_sA H t n a = zt_acA H t n (zt_as H t n a j) := by
  have hk : j = 0 ∨ j = 1 ∨ j = 2 := by omega
  unfold zt_sR zt_sA
  rcases hk with rfl | rfl | rfl
  · rw [if_pos hf, if_pos hf]; exact ⟨rfl, rfl⟩
  · have a0 := h1 0 (by omega) (by omega)
    have b0 := h2 0 (by omega) (by omega)
    have nb0 : ¬ (zt_nx t n (zt_acA H t n (zt_as H t n a 0)) ≠ 44) := fun q => q b0
    rw [if_neg a0, if_neg a0, if_neg nb0, if_neg nb0, if_pos hf, if_pos hf]; exact ⟨rfl, rfl⟩
  · have a0 := h1 0 (by omega) (by omega)
    have b0 := h2 0 (by omega) (by omega)
    have nb0 : ¬ (zt_nx t n (zt_acA H t n (zt_as H t n a 0)) ≠ 44) := fun q => q b0
    have a1 := h1 1 (by omega) (by omega)
    have b1 := h2 1 (by omega) (by omega)
    have nb1 : ¬ (zt_nx t n (zt_acA H t n (zt_as H t n a 1)) ≠ 44) := fun q => q b1
    rw [if_neg a0, if_neg a0, if_neg nb0, if_neg nb0, if_neg a1, if_neg a1, if_neg nb1, if_neg nb1, if_pos hf]; exact ⟨rfl, rfl⟩
theorem zt_s_stop {H : Int → Bool} {t : Int → Int} {n a j : Int} (hj : 1 ≤ j ∧ j ≤ 2) (h1 : ∀ i, 0 ≤ i → i < j → zt_acR H t n (zt_as H t n a i) ≠ 0) (h2 : ∀ i, 0 ≤ i → i + 1 < j → zt_nx t n (zt_acA H t n (zt_as H t n a i)) = 44) (hf : zt_nx t n (zt_acA H t n (zt_as H t n a (j - 1))) ≠ 44) : zt_sR H t n a = 1 ∧ zt_sA H t n a = zt_sk t n (zt_acA H t n (zt_as H t n a (j - 1))) ∧ zt_sN H t n a = j := by
  have hk : j = 1 ∨ j = 2 := by omega
  unfold zt_sR zt_sA zt_sN
  rcases hk with rfl | rfl
  · have a0 := h1 0 (by omega) (by omega)
    rw [show (1 : Int) - 1 = 0 from rfl] at hf ⊢
    rw [if_neg a0, if_neg a0, if_pos hf, if_pos hf, if_pos hf]; exact ⟨rfl, rfl, rfl⟩
  · have a0 := h1 0 (by omega) (by omega)
    have b0 := h2 0 (by omega) (by omega)
    have nb0 : ¬ (zt_nx t n (zt_acA H t n (zt_as H t n a 0)) ≠ 44) := fun q => q b0
    have a1 := h1 1 (by omega) (by omega)
    rw [show (2 : Int) - 1 = 1 from rfl] at hf ⊢
    rw [if_neg a0, if_neg a0, if_neg nb0, if_neg nb0, if_neg nb0, if_neg a1, if_neg a1, if_pos hf, if_pos hf, if_pos hf]; exact ⟨rfl, rfl, rfl⟩
theorem zt_s_full {H : Int → Bool} {t : Int → Int} {n a : Int} (h1 : ∀ i, 0 ≤ i → i < 3 → zt_acR H t n (zt_as H t n a i) ≠ 0) (h2 : ∀ i, 0 ≤ i → i + 1 < 3 → zt_nx t n (zt_acA H t n (zt_as H t n a i)) = 44) : zt_sR H t n a = 1 ∧ zt_sA H t n a = zt_acA H t n (zt_as H t n a 2) ∧ zt_sN H t n a = 3 := by
  have a0 := h1 0 (by omega) (by omega)
  have b0 := h2 0 (by omega) (by omega)
  have nb0 : ¬ (zt_nx t n (zt_acA H t n (zt_as H t n a 0)) ≠ 44) := fun q => q b0
  have a1 := h1 1 (by omega) (by omega)
  have b1 := h2 1 (by omega) (by omega)
  have nb1 : ¬ (zt_nx t n (zt_acA H t n (zt_as H t n a 1)) ≠ 44) := fun q => q b1
  have a2 := h1 2 (by omega) (by omega)
  unfold zt_sR zt_sA zt_sN
  rw [if_neg a0, if_neg a0, if_neg nb0, if_neg nb0, if_neg nb0, if_neg a1, if_neg a1, if_neg nb1, if_neg nb1, if_neg nb1, if_neg a2]; exact ⟨rfl, rfl, rfl⟩
/-- the ACTS of an ORDER, as they were read from a place on, the class's cells from b on -/
def zt_acts (τ : zq_S) (b : Int) (H : Int → Bool) (t : Int → Int) (n a k : Int) : Prop := ∀ i, 0 ≤ i → i < k → τ (b + 2) i = zt_tgR H t n (zt_as H t n a i) ∧ τ (b + 3) i = zt_acL H t n (zt_as H t n a i) ∧ τ (b + 4) i = zt_acS H t n (zt_as H t n a i) ∧ τ (b + 5) i = zt_acV H t n (zt_as H t n a i)
theorem zt_acts_add {ρ τ : zq_S} {b n a k : Int} {H : Int → Bool} {t : Int → Int} (h0 : 0 ≤ k) (h6 : ρ b 6 = k) (h : zt_acts ρ b H t n a k) (w : zt_add ρ τ b (zt_tgR H t n (zt_as H t n a k)) (zt_acL H t n (zt_as H t n a k)) (zt_acS H t n (zt_as H t n a k)) (zt_acV H t n (zt_as H t n a k))) : zt_acts τ b H t n a (k + 1) := by
  obtain ⟨-, -, -, w2, w3, w4, w5⟩ := w
  intro i hi hk
  rw [w2 i, w3 i, w4 i, w5 i, h6]
  by_cases hc : i = k
  · rw [if_pos hc, if_pos hc, if_pos hc, if_pos hc, hc]; exact ⟨rfl, rfl, rfl, rfl⟩
  · rw [if_neg hc, if_neg hc, if_neg hc, if_neg hc]; exact h i hi (by omega)
