/-! ===== the reference's world ===== -/
def zx_ki : Nat → zq_KI
  | 0 => .inr 12
  | 1 => .inl (0, 21)
  | 2 => .inl (0, 252)
  | 3 => .inl (0, 21)
  | 4 => .inl (0, 21)
  | 5 => .inl (0, 21)
  | 6 => .inl (0, 378)
  | 7 => .inl (0, 21)
  | 8 => .inl (0, 21)
  | 9 => .inl (0, 21)
  | 10 => .inl (0, 80)
  | 11 => .inl (0, 9)
  | 12 => .inl (0, 9)
  | 13 => .inl (0, 9)
  | 14 => .inl (0, 64)
  | 15 => .inl (0, 336)
  | 16 => .inl (0, 33600)
  | 17 => .inl (0, 336)
  | 18 => .inl (0, 4096)
  | 19 => .inl (0, 4)
  | 20 => .inl (0, 24)
  | 21 => .inl (0, 40)
  | 22 => .inl (0, 40)
  | 23 => .inl (0, 40)
  | 24 => .inl (0, 40)
  | 25 => .inl (0, 40)
  | 26 => .inl (0, 40)
  | 27 => .inl (0, 40)
  | 28 => .inl (0, 40)
  | 29 => .inl (0, 7)
  | 30 => .inl (0, 7)
  | 31 => .inl (0, 40)
  | 32 => .inl (0, 40)
  | 33 => .inl (0, 80)
  | 34 => .inl (0, 44)
  | 35 => .inl (0, 44)
  | 36 => .inl (0, 44)
  | 37 => .inl (0, 40)
  | 38 => .inl (0, 4)
  | 39 => .inl (0, 4)
  | 40 => .inl (0, 120)
  | _ => .inl (0, 0)
def zx_w : zq_W := (Int.toNat, zx_ki)
def zx_ty0 (i v : Int) : Prop :=
  if i = 0 then (2 ≤ v ∧ v ≤ 8) else
  if i = 1 then (1 ≤ v ∧ v ≤ 3) else
  if i = 2 then (6 ≤ v ∧ v ≤ 12) else
  if i = 3 then (0 ≤ v ∧ v ≤ 20) else
  if i = 4 then (v = 1) else
  if i = 5 then (v = 2) else
  if i = 6 then (v = 3) else
  if i = 7 then (v = 4) else
  if i = 8 then (v = 5) else
  if i = 9 then (v = 6) else
  if i = 10 then (v = 7) else
  if i = 11 then (v = 8) else
  if i = 12 then (v = 9) else
  if i = 13 then (v = 10) else
  if i = 14 then (0 ≤ v ∧ v ≤ 80) else
  if i = 15 then (0 ≤ v ∧ v ≤ 80) else
  if i = 16 then (0 ≤ v ∧ v ≤ 80) else
  if i = 17 then (-1 ≤ v ∧ v ≤ 255) else
  if i = 18 then (zq_in v) else
  if i = 19 then (v = 11) else
  if i = 20 then (v = 12) else
  if i = 21 then (v = 13) else
  if i = 22 then (0 ≤ v ∧ v ≤ 4) else
  if i = 23 then (v = 14) else
  if i = 24 then (v = 15) else
  if i = 25 then (v = 16) else
  if i = 26 then (0 ≤ v ∧ v ≤ 100) else
  if i = 27 then (0 ≤ v ∧ v ≤ 99) else
  if i = 28 then (v = 17) else
  if i = 29 then (zq_in v) else
  if i = 30 then (0 ≤ v ∧ v ≤ 1) else
  if i = 31 then (v = 18) else
  if i = 32 then (v = 19) else
  if i = 33 then (v = 20) else
  if i = 34 then (0 ≤ v ∧ v ≤ 24) else
  if i = 35 then (1 ≤ v ∧ v ≤ 8) else
  if i = 36 then (0 ≤ v ∧ v ≤ 1) else
  if i = 37 then (0 ≤ v ∧ v ≤ 39) else
  if i = 38 then (v = 21) else
  if i = 39 then (v = 22) else
  if i = 40 then (v = 23) else
  if i = 41 then (v = 24) else
  if i = 42 then (zq_in v) else
  if i = 43 then (0 ≤ v ∧ v ≤ 40) else
  if i = 44 then (0 ≤ v ∧ v ≤ 20) else
  if i = 45 then (v = 25) else
  if i = 46 then (v = 26) else
  if i = 47 then (v = 27) else
  if i = 48 then (v = 28) else
  if i = 49 then (v = 29) else
  if i = 50 then (v = 30) else
  if i = 51 then (v = 31) else
  if i = 52 then (v = 32) else
  if i = 53 then (v = 33) else
  if i = 54 then (0 ≤ v ∧ v ≤ 80) else
  if i = 55 then (0 ≤ v ∧ v ≤ 1) else
  if i = 56 then (v = 34) else
  if i = 57 then (v = 35) else
  if i = 58 then (v = 36) else
  if i = 59 then (0 ≤ v ∧ v ≤ 44) else
  if i = 60 then (v = 37) else
  if i = 61 then (zq_in v) else
  if i = 62 then (v = 38) else
  if i = 63 then (v = 39) else
  if i = 64 then (v = 40) else
  zq_in v
def zx_ty (a i v : Int) : Prop :=
  if a = 0 then zx_ty0 i v else
  if a = 1 then (zq_in v) else
  if a = 2 then (0 ≤ v ∧ v ≤ 5) else
  if a = 3 then (0 ≤ v ∧ v ≤ 2) else
  if a = 4 then (0 ≤ v ∧ v ≤ 4) else
  if a = 5 then (0 ≤ v ∧ v ≤ 3) else
  if a = 6 then ((i % 6 = 0 → 0 ≤ v ∧ v ≤ 9 ∧ v ≠ 3) ∧ (i % 6 = 1 → 0 ≤ v ∧ v ≤ 10) ∧ (i % 6 = 3 → 0 ≤ v ∧ v ≤ 6) ∧ (i % 6 = 4 → -1 ≤ v ∧ v ≤ 10) ∧ zq_in v) else
  if a = 7 then (0 ≤ v ∧ v ≤ 1000) else
  if a = 8 then (zq_in v) else
  if a = 9 then (zq_in v) else
  if a = 10 then (zq_in v) else
  if a = 11 then (0 ≤ v ∧ v ≤ 3) else
  if a = 12 then (0 ≤ v ∧ v ≤ 3) else
  if a = 13 then (0 ≤ v ∧ v ≤ 3) else
  if a = 14 then (0 ≤ v ∧ v ≤ 4095) else
  if a = 15 then ((i ≤ 263 → 0 ≤ v ∧ v ≤ 255) ∧ (i = 264 → 0 ≤ v ∧ v ≤ 1) ∧ (i = 265 → 0 ≤ v ∧ v ≤ 63) ∧ zq_in v) else
  if a = 16 then ((i % 336 ≤ 263 → 0 ≤ v ∧ v ≤ 255) ∧ (i % 336 = 264 → 0 ≤ v ∧ v ≤ 1) ∧ (i % 336 = 265 → 0 ≤ v ∧ v ≤ 63) ∧ zq_in v) else
  if a = 17 then ((i ≤ 263 → 0 ≤ v ∧ v ≤ 255) ∧ (i = 264 → 0 ≤ v ∧ v ≤ 1) ∧ (i = 265 → 0 ≤ v ∧ v ≤ 63) ∧ zq_in v) else
  if a = 18 then (-4 ≤ v ∧ v ≤ 19) else
  if a = 19 then (zq_in v) else
  if a = 20 then (zq_in v) else
  if a = 21 then (0 ≤ v ∧ v ≤ 2) else
  if a = 22 then (0 ≤ v ∧ v ≤ 255) else
  if a = 23 then (0 ≤ v ∧ v ≤ 39) else
  if a = 24 then (0 ≤ v ∧ v ≤ 39) else
  if a = 25 then (0 ≤ v ∧ v ≤ 2) else
  if a = 26 then (0 ≤ v ∧ v ≤ 255) else
  if a = 27 then (0 ≤ v ∧ v ≤ 39) else
  if a = 28 then (0 ≤ v ∧ v ≤ 39) else
  if a = 29 then (-1 ≤ v ∧ v ≤ 39) else
  if a = 30 then (0 ≤ v ∧ v ≤ 6) else
  if a = 31 then (zq_in v) else
  if a = 32 then (-1 ≤ v ∧ v ≤ 19) else
  if a = 33 then (0 ≤ v ∧ v ≤ 4095) else
  if a = 34 then (0 ≤ v ∧ v ≤ 39) else
  if a = 35 then (zq_in v) else
  if a = 36 then (0 ≤ v ∧ v ≤ 3) else
  if a = 37 then (zq_in v) else
  if a = 38 then (-1 ≤ v ∧ v ≤ 2) else
  if a = 39 then (0 ≤ v ∧ v ≤ 30) else
  if a = 40 then (zq_in v) else
  zq_in v
def zx_T (σ : zq_S) : Prop := ∀ a i, zx_ty a i (σ a i)
theorem zx_up {σ : zq_S} {a i v : Int} (h : zx_T σ) (hv : zx_ty a i v) : zx_T (zq_up σ a i v) := by
  intro a2 i2
  by_cases hc : a2 = a ∧ i2 = i
  · obtain ⟨rfl, rfl⟩ := hc
    rw [zq_up_same]
    exact hv
  · rw [zq_up_ne hc]
    exact h a2 i2
theorem zx_g0 {σ : zq_S} (h : zx_T σ) : 2 ≤ (σ 0 0) ∧ (σ 0 0) ≤ 8 := h 0 0
theorem zx_u0 {σ τ : zq_S} {v : Int} (e : τ = zq_up σ 0 0 v) (h : zx_T σ) (hv : 2 ≤ v ∧ v ≤ 8) : zx_T τ := by rw [e]; exact zx_up (a := 0) (i := 0) h hv
theorem zx_g1 {σ : zq_S} (h : zx_T σ) : 1 ≤ (σ 0 1) ∧ (σ 0 1) ≤ 3 := h 0 1
theorem zx_u1 {σ τ : zq_S} {v : Int} (e : τ = zq_up σ 0 1 v) (h : zx_T σ) (hv : 1 ≤ v ∧ v ≤ 3) : zx_T τ := by rw [e]; exact zx_up (a := 0) (i := 1) h hv
theorem zx_g2 {σ : zq_S} (h : zx_T σ) : 6 ≤ (σ 0 2) ∧ (σ 0 2) ≤ 12 := h 0 2
theorem zx_u2 {σ τ : zq_S} {v : Int} (e : τ = zq_up σ 0 2 v) (h : zx_T σ) (hv : 6 ≤ v ∧ v ≤ 12) : zx_T τ := by rw [e]; exact zx_up (a := 0) (i := 2) h hv
theorem zx_g3 {σ : zq_S} (h : zx_T σ) : 0 ≤ (σ 0 3) ∧ (σ 0 3) ≤ 20 := h 0 3
theorem zx_u3 {σ τ : zq_S} {v : Int} (e : τ = zq_up σ 0 3 v) (h : zx_T σ) (hv : 0 ≤ v ∧ v ≤ 20) : zx_T τ := by rw [e]; exact zx_up (a := 0) (i := 3) h hv
theorem zx_g4 {σ : zq_S} (h : zx_T σ) : (σ 0 4) = 1 := h 0 4
theorem zx_g5 {σ : zq_S} (h : zx_T σ) : (σ 0 5) = 2 := h 0 5
theorem zx_g6 {σ : zq_S} (h : zx_T σ) : (σ 0 6) = 3 := h 0 6
theorem zx_g7 {σ : zq_S} (h : zx_T σ) : (σ 0 7) = 4 := h 0 7
theorem zx_g8 {σ : zq_S} (h : zx_T σ) : (σ 0 8) = 5 := h 0 8
theorem zx_g9 {σ : zq_S} (h : zx_T σ) : (σ 0 9) = 6 := h 0 9
theorem zx_g10 {σ : zq_S} (h : zx_T σ) : (σ 0 10) = 7 := h 0 10
theorem zx_g11 {σ : zq_S} (h : zx_T σ) : (σ 0 11) = 8 := h 0 11
theorem zx_g12 {σ : zq_S} (h : zx_T σ) : (σ 0 12) = 9 := h 0 12
theorem zx_g13 {σ : zq_S} (h : zx_T σ) : (σ 0 13) = 10 := h 0 13
theorem zx_g14 {σ : zq_S} (h : zx_T σ) : 0 ≤ (σ 0 14) ∧ (σ 0 14) ≤ 80 := h 0 14
theorem zx_u14 {σ τ : zq_S} {v : Int} (e : τ = zq_up σ 0 14 v) (h : zx_T σ) (hv : 0 ≤ v ∧ v ≤ 80) : zx_T τ := by rw [e]; exact zx_up (a := 0) (i := 14) h hv
theorem zx_g15 {σ : zq_S} (h : zx_T σ) : 0 ≤ (σ 0 15) ∧ (σ 0 15) ≤ 80 := h 0 15
theorem zx_u15 {σ τ : zq_S} {v : Int} (e : τ = zq_up σ 0 15 v) (h : zx_T σ) (hv : 0 ≤ v ∧ v ≤ 80) : zx_T τ := by rw [e]; exact zx_up (a := 0) (i := 15) h hv
theorem zx_g16 {σ : zq_S} (h : zx_T σ) : 0 ≤ (σ 0 16) ∧ (σ 0 16) ≤ 80 := h 0 16
theorem zx_u16 {σ τ : zq_S} {v : Int} (e : τ = zq_up σ 0 16 v) (h : zx_T σ) (hv : 0 ≤ v ∧ v ≤ 80) : zx_T τ := by rw [e]; exact zx_up (a := 0) (i := 16) h hv
theorem zx_g17 {σ : zq_S} (h : zx_T σ) : -1 ≤ (σ 0 17) ∧ (σ 0 17) ≤ 255 := h 0 17
theorem zx_u17 {σ τ : zq_S} {v : Int} (e : τ = zq_up σ 0 17 v) (h : zx_T σ) (hv : -1 ≤ v ∧ v ≤ 255) : zx_T τ := by rw [e]; exact zx_up (a := 0) (i := 17) h hv
theorem zx_g18 {σ : zq_S} (h : zx_T σ) : zq_in (σ 0 18) := h 0 18
theorem zx_u18 {σ τ : zq_S} {v : Int} (e : τ = zq_up σ 0 18 v) (h : zx_T σ) (hv : zq_in v) : zx_T τ := by rw [e]; exact zx_up (a := 0) (i := 18) h hv
theorem zx_g19 {σ : zq_S} (h : zx_T σ) : (σ 0 19) = 11 := h 0 19
theorem zx_g20 {σ : zq_S} (h : zx_T σ) : (σ 0 20) = 12 := h 0 20
theorem zx_g21 {σ : zq_S} (h : zx_T σ) : (σ 0 21) = 13 := h 0 21
theorem zx_g22 {σ : zq_S} (h : zx_T σ) : 0 ≤ (σ 0 22) ∧ (σ 0 22) ≤ 4 := h 0 22
theorem zx_u22 {σ τ : zq_S} {v : Int} (e : τ = zq_up σ 0 22 v) (h : zx_T σ) (hv : 0 ≤ v ∧ v ≤ 4) : zx_T τ := by rw [e]; exact zx_up (a := 0) (i := 22) h hv
theorem zx_g23 {σ : zq_S} (h : zx_T σ) : (σ 0 23) = 14 := h 0 23
theorem zx_g24 {σ : zq_S} (h : zx_T σ) : (σ 0 24) = 15 := h 0 24
theorem zx_g25 {σ : zq_S} (h : zx_T σ) : (σ 0 25) = 16 := h 0 25
theorem zx_g26 {σ : zq_S} (h : zx_T σ) : 0 ≤ (σ 0 26) ∧ (σ 0 26) ≤ 100 := h 0 26
theorem zx_u26 {σ τ : zq_S} {v : Int} (e : τ = zq_up σ 0 26 v) (h : zx_T σ) (hv : 0 ≤ v ∧ v ≤ 100) : zx_T τ := by rw [e]; exact zx_up (a := 0) (i := 26) h hv
theorem zx_g27 {σ : zq_S} (h : zx_T σ) : 0 ≤ (σ 0 27) ∧ (σ 0 27) ≤ 99 := h 0 27
theorem zx_u27 {σ τ : zq_S} {v : Int} (e : τ = zq_up σ 0 27 v) (h : zx_T σ) (hv : 0 ≤ v ∧ v ≤ 99) : zx_T τ := by rw [e]; exact zx_up (a := 0) (i := 27) h hv
theorem zx_g28 {σ : zq_S} (h : zx_T σ) : (σ 0 28) = 17 := h 0 28
theorem zx_g29 {σ : zq_S} (h : zx_T σ) : zq_in (σ 0 29) := h 0 29
theorem zx_u29 {σ τ : zq_S} {v : Int} (e : τ = zq_up σ 0 29 v) (h : zx_T σ) (hv : zq_in v) : zx_T τ := by rw [e]; exact zx_up (a := 0) (i := 29) h hv
theorem zx_g30 {σ : zq_S} (h : zx_T σ) : 0 ≤ (σ 0 30) ∧ (σ 0 30) ≤ 1 := h 0 30
theorem zx_u30 {σ τ : zq_S} {v : Int} (e : τ = zq_up σ 0 30 v) (h : zx_T σ) (hv : 0 ≤ v ∧ v ≤ 1) : zx_T τ := by rw [e]; exact zx_up (a := 0) (i := 30) h hv
theorem zx_g31 {σ : zq_S} (h : zx_T σ) : (σ 0 31) = 18 := h 0 31
theorem zx_g32 {σ : zq_S} (h : zx_T σ) : (σ 0 32) = 19 := h 0 32
theorem zx_g33 {σ : zq_S} (h : zx_T σ) : (σ 0 33) = 20 := h 0 33
theorem zx_g34 {σ : zq_S} (h : zx_T σ) : 0 ≤ (σ 0 34) ∧ (σ 0 34) ≤ 24 := h 0 34
theorem zx_u34 {σ τ : zq_S} {v : Int} (e : τ = zq_up σ 0 34 v) (h : zx_T σ) (hv : 0 ≤ v ∧ v ≤ 24) : zx_T τ := by rw [e]; exact zx_up (a := 0) (i := 34) h hv
theorem zx_g35 {σ : zq_S} (h : zx_T σ) : 1 ≤ (σ 0 35) ∧ (σ 0 35) ≤ 8 := h 0 35
theorem zx_u35 {σ τ : zq_S} {v : Int} (e : τ = zq_up σ 0 35 v) (h : zx_T σ) (hv : 1 ≤ v ∧ v ≤ 8) : zx_T τ := by rw [e]; exact zx_up (a := 0) (i := 35) h hv
theorem zx_g36 {σ : zq_S} (h : zx_T σ) : 0 ≤ (σ 0 36) ∧ (σ 0 36) ≤ 1 := h 0 36
theorem zx_u36 {σ τ : zq_S} {v : Int} (e : τ = zq_up σ 0 36 v) (h : zx_T σ) (hv : 0 ≤ v ∧ v ≤ 1) : zx_T τ := by rw [e]; exact zx_up (a := 0) (i := 36) h hv
theorem zx_g37 {σ : zq_S} (h : zx_T σ) : 0 ≤ (σ 0 37) ∧ (σ 0 37) ≤ 39 := h 0 37
theorem zx_u37 {σ τ : zq_S} {v : Int} (e : τ = zq_up σ 0 37 v) (h : zx_T σ) (hv : 0 ≤ v ∧ v ≤ 39) : zx_T τ := by rw [e]; exact zx_up (a := 0) (i := 37) h hv
theorem zx_g38 {σ : zq_S} (h : zx_T σ) : (σ 0 38) = 21 := h 0 38
theorem zx_g39 {σ : zq_S} (h : zx_T σ) : (σ 0 39) = 22 := h 0 39
theorem zx_g40 {σ : zq_S} (h : zx_T σ) : (σ 0 40) = 23 := h 0 40
theorem zx_g41 {σ : zq_S} (h : zx_T σ) : (σ 0 41) = 24 := h 0 41
theorem zx_g42 {σ : zq_S} (h : zx_T σ) : zq_in (σ 0 42) := h 0 42
theorem zx_u42 {σ τ : zq_S} {v : Int} (e : τ = zq_up σ 0 42 v) (h : zx_T σ) (hv : zq_in v) : zx_T τ := by rw [e]; exact zx_up (a := 0) (i := 42) h hv
theorem zx_g43 {σ : zq_S} (h : zx_T σ) : 0 ≤ (σ 0 43) ∧ (σ 0 43) ≤ 40 := h 0 43
theorem zx_u43 {σ τ : zq_S} {v : Int} (e : τ = zq_up σ 0 43 v) (h : zx_T σ) (hv : 0 ≤ v ∧ v ≤ 40) : zx_T τ := by rw [e]; exact zx_up (a := 0) (i := 43) h hv
theorem zx_g44 {σ : zq_S} (h : zx_T σ) : 0 ≤ (σ 0 44) ∧ (σ 0 44) ≤ 20 := h 0 44
theorem zx_u44 {σ τ : zq_S} {v : Int} (e : τ = zq_up σ 0 44 v) (h : zx_T σ) (hv : 0 ≤ v ∧ v ≤ 20) : zx_T τ := by rw [e]; exact zx_up (a := 0) (i := 44) h hv
theorem zx_g45 {σ : zq_S} (h : zx_T σ) : (σ 0 45) = 25 := h 0 45
theorem zx_g46 {σ : zq_S} (h : zx_T σ) : (σ 0 46) = 26 := h 0 46
theorem zx_g47 {σ : zq_S} (h : zx_T σ) : (σ 0 47) = 27 := h 0 47
theorem zx_g48 {σ : zq_S} (h : zx_T σ) : (σ 0 48) = 28 := h 0 48
theorem zx_g49 {σ : zq_S} (h : zx_T σ) : (σ 0 49) = 29 := h 0 49
theorem zx_g50 {σ : zq_S} (h : zx_T σ) : (σ 0 50) = 30 := h 0 50
theorem zx_g51 {σ : zq_S} (h : zx_T σ) : (σ 0 51) = 31 := h 0 51
theorem zx_g52 {σ : zq_S} (h : zx_T σ) : (σ 0 52) = 32 := h 0 52
theorem zx_g53 {σ : zq_S} (h : zx_T σ) : (σ 0 53) = 33 := h 0 53
theorem zx_g54 {σ : zq_S} (h : zx_T σ) : 0 ≤ (σ 0 54) ∧ (σ 0 54) ≤ 80 := h 0 54
theorem zx_u54 {σ τ : zq_S} {v : Int} (e : τ = zq_up σ 0 54 v) (h : zx_T σ) (hv : 0 ≤ v ∧ v ≤ 80) : zx_T τ := by rw [e]; exact zx_up (a := 0) (i := 54) h hv
theorem zx_g55 {σ : zq_S} (h : zx_T σ) : 0 ≤ (σ 0 55) ∧ (σ 0 55) ≤ 1 := h 0 55
theorem zx_u55 {σ τ : zq_S} {v : Int} (e : τ = zq_up σ 0 55 v) (h : zx_T σ) (hv : 0 ≤ v ∧ v ≤ 1) : zx_T τ := by rw [e]; exact zx_up (a := 0) (i := 55) h hv
theorem zx_g56 {σ : zq_S} (h : zx_T σ) : (σ 0 56) = 34 := h 0 56
theorem zx_g57 {σ : zq_S} (h : zx_T σ) : (σ 0 57) = 35 := h 0 57
theorem zx_g58 {σ : zq_S} (h : zx_T σ) : (σ 0 58) = 36 := h 0 58
theorem zx_g59 {σ : zq_S} (h : zx_T σ) : 0 ≤ (σ 0 59) ∧ (σ 0 59) ≤ 44 := h 0 59
theorem zx_u59 {σ τ : zq_S} {v : Int} (e : τ = zq_up σ 0 59 v) (h : zx_T σ) (hv : 0 ≤ v ∧ v ≤ 44) : zx_T τ := by rw [e]; exact zx_up (a := 0) (i := 59) h hv
theorem zx_g60 {σ : zq_S} (h : zx_T σ) : (σ 0 60) = 37 := h 0 60
theorem zx_g61 {σ : zq_S} (h : zx_T σ) : zq_in (σ 0 61) := h 0 61
theorem zx_u61 {σ τ : zq_S} {v : Int} (e : τ = zq_up σ 0 61 v) (h : zx_T σ) (hv : zq_in v) : zx_T τ := by rw [e]; exact zx_up (a := 0) (i := 61) h hv
theorem zx_g62 {σ : zq_S} (h : zx_T σ) : (σ 0 62) = 38 := h 0 62
theorem zx_g63 {σ : zq_S} (h : zx_T σ) : (σ 0 63) = 39 := h 0 63
theorem zx_g64 {σ : zq_S} (h : zx_T σ) : (σ 0 64) = 40 := h 0 64
theorem zx_ga1 {σ : zq_S} (h : zx_T σ) (i : Int) : zq_in (σ 1 i) := h 1 i
theorem zx_ua1 {σ τ : zq_S} {i v : Int} (e : τ = zq_up σ 1 i v) (h : zx_T σ) (hv : zq_in v) : zx_T τ := by rw [e]; exact zx_up (a := 1) (i := i) h hv
theorem zx_ga2 {σ : zq_S} (h : zx_T σ) (i : Int) : 0 ≤ (σ 2 i) ∧ (σ 2 i) ≤ 5 := h 2 i
theorem zx_ua2 {σ τ : zq_S} {i v : Int} (e : τ = zq_up σ 2 i v) (h : zx_T σ) (hv : 0 ≤ v ∧ v ≤ 5) : zx_T τ := by rw [e]; exact zx_up (a := 2) (i := i) h hv
theorem zx_ga3 {σ : zq_S} (h : zx_T σ) (i : Int) : 0 ≤ (σ 3 i) ∧ (σ 3 i) ≤ 2 := h 3 i
theorem zx_ua3 {σ τ : zq_S} {i v : Int} (e : τ = zq_up σ 3 i v) (h : zx_T σ) (hv : 0 ≤ v ∧ v ≤ 2) : zx_T τ := by rw [e]; exact zx_up (a := 3) (i := i) h hv
theorem zx_ga4 {σ : zq_S} (h : zx_T σ) (i : Int) : 0 ≤ (σ 4 i) ∧ (σ 4 i) ≤ 4 := h 4 i
theorem zx_ua4 {σ τ : zq_S} {i v : Int} (e : τ = zq_up σ 4 i v) (h : zx_T σ) (hv : 0 ≤ v ∧ v ≤ 4) : zx_T τ := by rw [e]; exact zx_up (a := 4) (i := i) h hv
theorem zx_ga5 {σ : zq_S} (h : zx_T σ) (i : Int) : 0 ≤ (σ 5 i) ∧ (σ 5 i) ≤ 3 := h 5 i
theorem zx_ua5 {σ τ : zq_S} {i v : Int} (e : τ = zq_up σ 5 i v) (h : zx_T σ) (hv : 0 ≤ v ∧ v ≤ 3) : zx_T τ := by rw [e]; exact zx_up (a := 5) (i := i) h hv
theorem zx_ga6 {σ : zq_S} (h : zx_T σ) (i : Int) : (i % 6 = 0 → 0 ≤ (σ 6 i) ∧ (σ 6 i) ≤ 9 ∧ (σ 6 i) ≠ 3) ∧ (i % 6 = 1 → 0 ≤ (σ 6 i) ∧ (σ 6 i) ≤ 10) ∧ (i % 6 = 3 → 0 ≤ (σ 6 i) ∧ (σ 6 i) ≤ 6) ∧ (i % 6 = 4 → -1 ≤ (σ 6 i) ∧ (σ 6 i) ≤ 10) ∧ zq_in (σ 6 i) := h 6 i
theorem zx_ua6 {σ τ : zq_S} {i v : Int} (e : τ = zq_up σ 6 i v) (h : zx_T σ) (hv : (i % 6 = 0 → 0 ≤ v ∧ v ≤ 9 ∧ v ≠ 3) ∧ (i % 6 = 1 → 0 ≤ v ∧ v ≤ 10) ∧ (i % 6 = 3 → 0 ≤ v ∧ v ≤ 6) ∧ (i % 6 = 4 → -1 ≤ v ∧ v ≤ 10) ∧ zq_in v) : zx_T τ := by rw [e]; exact zx_up (a := 6) (i := i) h hv
theorem zx_ga7 {σ : zq_S} (h : zx_T σ) (i : Int) : 0 ≤ (σ 7 i) ∧ (σ 7 i) ≤ 1000 := h 7 i
theorem zx_ua7 {σ τ : zq_S} {i v : Int} (e : τ = zq_up σ 7 i v) (h : zx_T σ) (hv : 0 ≤ v ∧ v ≤ 1000) : zx_T τ := by rw [e]; exact zx_up (a := 7) (i := i) h hv
theorem zx_ga8 {σ : zq_S} (h : zx_T σ) (i : Int) : zq_in (σ 8 i) := h 8 i
theorem zx_ua8 {σ τ : zq_S} {i v : Int} (e : τ = zq_up σ 8 i v) (h : zx_T σ) (hv : zq_in v) : zx_T τ := by rw [e]; exact zx_up (a := 8) (i := i) h hv
theorem zx_ga9 {σ : zq_S} (h : zx_T σ) (i : Int) : zq_in (σ 9 i) := h 9 i
theorem zx_ua9 {σ τ : zq_S} {i v : Int} (e : τ = zq_up σ 9 i v) (h : zx_T σ) (hv : zq_in v) : zx_T τ := by rw [e]; exact zx_up (a := 9) (i := i) h hv
theorem zx_ga10 {σ : zq_S} (h : zx_T σ) (i : Int) : zq_in (σ 10 i) := h 10 i
theorem zx_ua10 {σ τ : zq_S} {i v : Int} (e : τ = zq_up σ 10 i v) (h : zx_T σ) (hv : zq_in v) : zx_T τ := by rw [e]; exact zx_up (a := 10) (i := i) h hv
theorem zx_ga11 {σ : zq_S} (h : zx_T σ) (i : Int) : 0 ≤ (σ 11 i) ∧ (σ 11 i) ≤ 3 := h 11 i
theorem zx_ua11 {σ τ : zq_S} {i v : Int} (e : τ = zq_up σ 11 i v) (h : zx_T σ) (hv : 0 ≤ v ∧ v ≤ 3) : zx_T τ := by rw [e]; exact zx_up (a := 11) (i := i) h hv
theorem zx_ga12 {σ : zq_S} (h : zx_T σ) (i : Int) : 0 ≤ (σ 12 i) ∧ (σ 12 i) ≤ 3 := h 12 i
theorem zx_ua12 {σ τ : zq_S} {i v : Int} (e : τ = zq_up σ 12 i v) (h : zx_T σ) (hv : 0 ≤ v ∧ v ≤ 3) : zx_T τ := by rw [e]; exact zx_up (a := 12) (i := i) h hv
theorem zx_ga13 {σ : zq_S} (h : zx_T σ) (i : Int) : 0 ≤ (σ 13 i) ∧ (σ 13 i) ≤ 3 := h 13 i
theorem zx_ua13 {σ τ : zq_S} {i v : Int} (e : τ = zq_up σ 13 i v) (h : zx_T σ) (hv : 0 ≤ v ∧ v ≤ 3) : zx_T τ := by rw [e]; exact zx_up (a := 13) (i := i) h hv
theorem zx_ga14 {σ : zq_S} (h : zx_T σ) (i : Int) : 0 ≤ (σ 14 i) ∧ (σ 14 i) ≤ 4095 := h 14 i
theorem zx_ua14 {σ τ : zq_S} {i v : Int} (e : τ = zq_up σ 14 i v) (h : zx_T σ) (hv : 0 ≤ v ∧ v ≤ 4095) : zx_T τ := by rw [e]; exact zx_up (a := 14) (i := i) h hv
theorem zx_ga15 {σ : zq_S} (h : zx_T σ) (i : Int) : (i ≤ 263 → 0 ≤ (σ 15 i) ∧ (σ 15 i) ≤ 255) ∧ (i = 264 → 0 ≤ (σ 15 i) ∧ (σ 15 i) ≤ 1) ∧ (i = 265 → 0 ≤ (σ 15 i) ∧ (σ 15 i) ≤ 63) ∧ zq_in (σ 15 i) := h 15 i
theorem zx_ua15 {σ τ : zq_S} {i v : Int} (e : τ = zq_up σ 15 i v) (h : zx_T σ) (hv : (i ≤ 263 → 0 ≤ v ∧ v ≤ 255) ∧ (i = 264 → 0 ≤ v ∧ v ≤ 1) ∧ (i = 265 → 0 ≤ v ∧ v ≤ 63) ∧ zq_in v) : zx_T τ := by rw [e]; exact zx_up (a := 15) (i := i) h hv
theorem zx_ga16 {σ : zq_S} (h : zx_T σ) (i : Int) : (i % 336 ≤ 263 → 0 ≤ (σ 16 i) ∧ (σ 16 i) ≤ 255) ∧ (i % 336 = 264 → 0 ≤ (σ 16 i) ∧ (σ 16 i) ≤ 1) ∧ (i % 336 = 265 → 0 ≤ (σ 16 i) ∧ (σ 16 i) ≤ 63) ∧ zq_in (σ 16 i) := h 16 i
theorem zx_ua16 {σ τ : zq_S} {i v : Int} (e : τ = zq_up σ 16 i v) (h : zx_T σ) (hv : (i % 336 ≤ 263 → 0 ≤ v ∧ v ≤ 255) ∧ (i % 336 = 264 → 0 ≤ v ∧ v ≤ 1) ∧ (i % 336 = 265 → 0 ≤ v ∧ v ≤ 63) ∧ zq_in v) : zx_T τ := by rw [e]; exact zx_up (a := 16) (i := i) h hv
theorem zx_ga17 {σ : zq_S} (h : zx_T σ) (i : Int) : (i ≤ 263 → 0 ≤ (σ 17 i) ∧ (σ 17 i) ≤ 255) ∧ (i = 264 → 0 ≤ (σ 17 i) ∧ (σ 17 i) ≤ 1) ∧ (i = 265 → 0 ≤ (σ 17 i) ∧ (σ 17 i) ≤ 63) ∧ zq_in (σ 17 i) := h 17 i
theorem zx_ua17 {σ τ : zq_S} {i v : Int} (e : τ = zq_up σ 17 i v) (h : zx_T σ) (hv : (i ≤ 263 → 0 ≤ v ∧ v ≤ 255) ∧ (i = 264 → 0 ≤ v ∧ v ≤ 1) ∧ (i = 265 → 0 ≤ v ∧ v ≤ 63) ∧ zq_in v) : zx_T τ := by rw [e]; exact zx_up (a := 17) (i := i) h hv
theorem zx_ga18 {σ : zq_S} (h : zx_T σ) (i : Int) : -4 ≤ (σ 18 i) ∧ (σ 18 i) ≤ 19 := h 18 i
theorem zx_ua18 {σ τ : zq_S} {i v : Int} (e : τ = zq_up σ 18 i v) (h : zx_T σ) (hv : -4 ≤ v ∧ v ≤ 19) : zx_T τ := by rw [e]; exact zx_up (a := 18) (i := i) h hv
theorem zx_ga19 {σ : zq_S} (h : zx_T σ) (i : Int) : zq_in (σ 19 i) := h 19 i
theorem zx_ua19 {σ τ : zq_S} {i v : Int} (e : τ = zq_up σ 19 i v) (h : zx_T σ) (hv : zq_in v) : zx_T τ := by rw [e]; exact zx_up (a := 19) (i := i) h hv
theorem zx_ga20 {σ : zq_S} (h : zx_T σ) (i : Int) : zq_in (σ 20 i) := h 20 i
theorem zx_ua20 {σ τ : zq_S} {i v : Int} (e : τ = zq_up σ 20 i v) (h : zx_T σ) (hv : zq_in v) : zx_T τ := by rw [e]; exact zx_up (a := 20) (i := i) h hv
theorem zx_ga21 {σ : zq_S} (h : zx_T σ) (i : Int) : 0 ≤ (σ 21 i) ∧ (σ 21 i) ≤ 2 := h 21 i
theorem zx_ua21 {σ τ : zq_S} {i v : Int} (e : τ = zq_up σ 21 i v) (h : zx_T σ) (hv : 0 ≤ v ∧ v ≤ 2) : zx_T τ := by rw [e]; exact zx_up (a := 21) (i := i) h hv
theorem zx_ga22 {σ : zq_S} (h : zx_T σ) (i : Int) : 0 ≤ (σ 22 i) ∧ (σ 22 i) ≤ 255 := h 22 i
theorem zx_ua22 {σ τ : zq_S} {i v : Int} (e : τ = zq_up σ 22 i v) (h : zx_T σ) (hv : 0 ≤ v ∧ v ≤ 255) : zx_T τ := by rw [e]; exact zx_up (a := 22) (i := i) h hv
theorem zx_ga23 {σ : zq_S} (h : zx_T σ) (i : Int) : 0 ≤ (σ 23 i) ∧ (σ 23 i) ≤ 39 := h 23 i
theorem zx_ua23 {σ τ : zq_S} {i v : Int} (e : τ = zq_up σ 23 i v) (h : zx_T σ) (hv : 0 ≤ v ∧ v ≤ 39) : zx_T τ := by rw [e]; exact zx_up (a := 23) (i := i) h hv
theorem zx_ga24 {σ : zq_S} (h : zx_T σ) (i : Int) : 0 ≤ (σ 24 i) ∧ (σ 24 i) ≤ 39 := h 24 i
theorem zx_ua24 {σ τ : zq_S} {i v : Int} (e : τ = zq_up σ 24 i v) (h : zx_T σ) (hv : 0 ≤ v ∧ v ≤ 39) : zx_T τ := by rw [e]; exact zx_up (a := 24) (i := i) h hv
theorem zx_ga25 {σ : zq_S} (h : zx_T σ) (i : Int) : 0 ≤ (σ 25 i) ∧ (σ 25 i) ≤ 2 := h 25 i
theorem zx_ua25 {σ τ : zq_S} {i v : Int} (e : τ = zq_up σ 25 i v) (h : zx_T σ) (hv : 0 ≤ v ∧ v ≤ 2) : zx_T τ := by rw [e]; exact zx_up (a := 25) (i := i) h hv
theorem zx_ga26 {σ : zq_S} (h : zx_T σ) (i : Int) : 0 ≤ (σ 26 i) ∧ (σ 26 i) ≤ 255 := h 26 i
theorem zx_ua26 {σ τ : zq_S} {i v : Int} (e : τ = zq_up σ 26 i v) (h : zx_T σ) (hv : 0 ≤ v ∧ v ≤ 255) : zx_T τ := by rw [e]; exact zx_up (a := 26) (i := i) h hv
theorem zx_ga27 {σ : zq_S} (h : zx_T σ) (i : Int) : 0 ≤ (σ 27 i) ∧ (σ 27 i) ≤ 39 := h 27 i
theorem zx_ua27 {σ τ : zq_S} {i v : Int} (e : τ = zq_up σ 27 i v) (h : zx_T σ) (hv : 0 ≤ v ∧ v ≤ 39) : zx_T τ := by rw [e]; exact zx_up (a := 27) (i := i) h hv
theorem zx_ga28 {σ : zq_S} (h : zx_T σ) (i : Int) : 0 ≤ (σ 28 i) ∧ (σ 28 i) ≤ 39 := h 28 i
theorem zx_ua28 {σ τ : zq_S} {i v : Int} (e : τ = zq_up σ 28 i v) (h : zx_T σ) (hv : 0 ≤ v ∧ v ≤ 39) : zx_T τ := by rw [e]; exact zx_up (a := 28) (i := i) h hv
theorem zx_ga29 {σ : zq_S} (h : zx_T σ) (i : Int) : -1 ≤ (σ 29 i) ∧ (σ 29 i) ≤ 39 := h 29 i
theorem zx_ua29 {σ τ : zq_S} {i v : Int} (e : τ = zq_up σ 29 i v) (h : zx_T σ) (hv : -1 ≤ v ∧ v ≤ 39) : zx_T τ := by rw [e]; exact zx_up (a := 29) (i := i) h hv
theorem zx_ga30 {σ : zq_S} (h : zx_T σ) (i : Int) : 0 ≤ (σ 30 i) ∧ (σ 30 i) ≤ 6 := h 30 i
theorem zx_ua30 {σ τ : zq_S} {i v : Int} (e : τ = zq_up σ 30 i v) (h : zx_T σ) (hv : 0 ≤ v ∧ v ≤ 6) : zx_T τ := by rw [e]; exact zx_up (a := 30) (i := i) h hv
theorem zx_ga31 {σ : zq_S} (h : zx_T σ) (i : Int) : zq_in (σ 31 i) := h 31 i
theorem zx_ua31 {σ τ : zq_S} {i v : Int} (e : τ = zq_up σ 31 i v) (h : zx_T σ) (hv : zq_in v) : zx_T τ := by rw [e]; exact zx_up (a := 31) (i := i) h hv
theorem zx_ga32 {σ : zq_S} (h : zx_T σ) (i : Int) : -1 ≤ (σ 32 i) ∧ (σ 32 i) ≤ 19 := h 32 i
theorem zx_ua32 {σ τ : zq_S} {i v : Int} (e : τ = zq_up σ 32 i v) (h : zx_T σ) (hv : -1 ≤ v ∧ v ≤ 19) : zx_T τ := by rw [e]; exact zx_up (a := 32) (i := i) h hv
theorem zx_ga33 {σ : zq_S} (h : zx_T σ) (i : Int) : 0 ≤ (σ 33 i) ∧ (σ 33 i) ≤ 4095 := h 33 i
theorem zx_ua33 {σ τ : zq_S} {i v : Int} (e : τ = zq_up σ 33 i v) (h : zx_T σ) (hv : 0 ≤ v ∧ v ≤ 4095) : zx_T τ := by rw [e]; exact zx_up (a := 33) (i := i) h hv
theorem zx_ga34 {σ : zq_S} (h : zx_T σ) (i : Int) : 0 ≤ (σ 34 i) ∧ (σ 34 i) ≤ 39 := h 34 i
theorem zx_ua34 {σ τ : zq_S} {i v : Int} (e : τ = zq_up σ 34 i v) (h : zx_T σ) (hv : 0 ≤ v ∧ v ≤ 39) : zx_T τ := by rw [e]; exact zx_up (a := 34) (i := i) h hv
theorem zx_ga35 {σ : zq_S} (h : zx_T σ) (i : Int) : zq_in (σ 35 i) := h 35 i
theorem zx_ua35 {σ τ : zq_S} {i v : Int} (e : τ = zq_up σ 35 i v) (h : zx_T σ) (hv : zq_in v) : zx_T τ := by rw [e]; exact zx_up (a := 35) (i := i) h hv
theorem zx_ga36 {σ : zq_S} (h : zx_T σ) (i : Int) : 0 ≤ (σ 36 i) ∧ (σ 36 i) ≤ 3 := h 36 i
theorem zx_ua36 {σ τ : zq_S} {i v : Int} (e : τ = zq_up σ 36 i v) (h : zx_T σ) (hv : 0 ≤ v ∧ v ≤ 3) : zx_T τ := by rw [e]; exact zx_up (a := 36) (i := i) h hv
theorem zx_ga37 {σ : zq_S} (h : zx_T σ) (i : Int) : zq_in (σ 37 i) := h 37 i
theorem zx_ua37 {σ τ : zq_S} {i v : Int} (e : τ = zq_up σ 37 i v) (h : zx_T σ) (hv : zq_in v) : zx_T τ := by rw [e]; exact zx_up (a := 37) (i := i) h hv
theorem zx_ga38 {σ : zq_S} (h : zx_T σ) (i : Int) : -1 ≤ (σ 38 i) ∧ (σ 38 i) ≤ 2 := h 38 i
theorem zx_ua38 {σ τ : zq_S} {i v : Int} (e : τ = zq_up σ 38 i v) (h : zx_T σ) (hv : -1 ≤ v ∧ v ≤ 2) : zx_T τ := by rw [e]; exact zx_up (a := 38) (i := i) h hv
theorem zx_ga39 {σ : zq_S} (h : zx_T σ) (i : Int) : 0 ≤ (σ 39 i) ∧ (σ 39 i) ≤ 30 := h 39 i
theorem zx_ua39 {σ τ : zq_S} {i v : Int} (e : τ = zq_up σ 39 i v) (h : zx_T σ) (hv : 0 ≤ v ∧ v ≤ 30) : zx_T τ := by rw [e]; exact zx_up (a := 39) (i := i) h hv
theorem zx_ga40 {σ : zq_S} (h : zx_T σ) (i : Int) : zq_in (σ 40 i) := h 40 i
theorem zx_ua40 {σ τ : zq_S} {i v : Int} (e : τ = zq_up σ 40 i v) (h : zx_T σ) (hv : zq_in v) : zx_T τ := by rw [e]; exact zx_up (a := 40) (i := i) h hv

