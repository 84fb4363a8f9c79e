/-! ===== the class's world: kinds of cells, and what their slots hold ===== -/
def zc_kd (a : Int) : Nat :=
  if a < 0 then 999 else if a < 12 then a.toNat else if a ≤ 131 then 4 + ((a - 12) % 6).toNat else if a < 154 then a.toNat else if a ≤ 253 then 154 else if a < 264 then a.toNat else if a ≤ 271 then (a - 8).toNat else if a < 280 then a.toNat else if a ≤ 283 then 280 else 999
def zc_ki (k : Nat) : zq_KI :=
  if k = 0 then .inr 11 else
  if k = 1 then .inr 8 else
  if k = 2 then .inl (0, 80) else
  if k = 3 then .inr 9 else
  if k = 4 then .inr 3 else
  if k = 5 then .inl (0, 4) else
  if k = 6 then .inl (0, 3) else
  if k = 7 then .inl (0, 3) else
  if k = 8 then .inl (0, 3) else
  if k = 9 then .inl (0, 3) else
  if k = 10 then .inl (1, 20) else
  if k = 11 then .inl (0, 4096) else
  if k = 132 then .inr 4 else
  if k = 133 then .inl (0, 16) else
  if k = 134 then .inr 2 else
  if k = 135 then .inl (0, 10) else
  if k = 136 then .inl (0, 9) else
  if k = 137 then .inl (0, 9) else
  if k = 138 then .inl (0, 10) else
  if k = 139 then .inl (0, 64) else
  if k = 140 then .inr 6 else
  if k = 141 then .inr 10 else
  if k = 142 then .inl (0, 8) else
  if k = 143 then .inl (0, 256) else
  if k = 144 then .inl (0, 4) else
  if k = 145 then .inl (0, 3) else
  if k = 146 then .inl (0, 3) else
  if k = 147 then .inr 10 else
  if k = 148 then .inl (0, 8) else
  if k = 149 then .inl (0, 256) else
  if k = 150 then .inl (0, 4) else
  if k = 151 then .inl (0, 3) else
  if k = 152 then .inl (0, 3) else
  if k = 153 then .inl (2, 100) else
  if k = 154 then .inl (0, 13) else
  if k = 254 then .inl (0, 64) else
  if k = 255 then .inr 1 else
  if k = 256 then .inr 7 else
  if k = 257 then .inl (0, 39) else
  if k = 258 then .inl (0, 39) else
  if k = 259 then .inl (0, 39) else
  if k = 260 then .inl (0, 39) else
  if k = 261 then .inl (0, 39) else
  if k = 262 then .inl (0, 7) else
  if k = 263 then .inl (0, 7) else
  if k = 272 then .inl (0, 39) else
  if k = 273 then .inl (0, 39) else
  if k = 274 then .inl (0, 39) else
  if k = 275 then .inl (0, 64) else
  if k = 276 then .inr 5 else
  if k = 277 then .inl (0, 4) else
  if k = 278 then .inl (0, 4) else
  if k = 279 then .inl (2, 4) else
  if k = 280 then .inl (0, 30) else
  .inl (0, 0)
def zc_w : zq_W := (zc_kd, zc_ki)
def zc_op (v : Int) : Prop := v ≤ 9 ∨ 16 ≤ v
def zc_t0 (a i v : Int) : Prop :=
  if i = 0 then (v = 1) else
  if i = 1 then (v = 3) else
  if i = 2 then (v = 132) else
  if i = 3 then (v = 134) else
  if i = 4 then (v = 139) else
  if i = 5 then (v = 140) else
  if i = 6 then (v = 255) else
  if i = 7 then (v = 276) else
  True
def zc_t1 (a i v : Int) : Prop :=
  if i = 0 then (v = 2) else
  if i = 1 then (0 ≤ v ∧ v ≤ 80) else
  if i = 2 then (0 ≤ v ∧ v ≤ 80) else
  if i = 3 then (0 ≤ v ∧ v ≤ 80) else
  True
def zc_t3 (a i v : Int) : Prop :=
  if i = 0 then (0 ≤ v ∧ v ≤ 8) else
  if i = 1 then (0 ≤ v ∧ v ≤ 3) else
  if i = 2 then (0 ≤ v ∧ v ≤ 12) else
  if i = 3 then (0 ≤ v ∧ v ≤ 20) else
  if i = 4 then (zq_in v) else
  if i = 5 then (zc_kd v = 4) else
  if i = 6 then (v = 10) else
  if i = 7 then (v = 11) else
  True
def zc_t4 (a i v : Int) : Prop :=
  if i = 0 then (zq_in v) else
  if i = 1 then (zq_in v) else
  if i = 2 then (0 ≤ v ∧ v ≤ 4095) else
  if i = 3 then (v = a + 1) else
  if i = 4 then (zq_in v) else
  if i = 5 then (0 ≤ v ∧ v ≤ 9) else
  if i = 6 then (0 ≤ v ∧ v ≤ 3) else
  if i = 7 then (v = a + 2) else
  if i = 8 then (v = a + 3) else
  if i = 9 then (v = a + 4) else
  if i = 10 then (v = a + 5) else
  if i = 11 then (zq_in v) else
  if i = 12 then (zq_in v) else
  if i = 13 then (zq_in v) else
  if i = 14 then (zq_in v) else
  if i = 15 then (zq_in v) else
  if i = 16 then (zq_in v) else
  True
def zc_t132 (a i v : Int) : Prop :=
  if i = 0 then (v = 1) else
  if i = 1 then (v = 3) else
  if i = 2 then (v = 133) else
  if i = 3 then (0 ≤ v ∧ v ≤ 16) else
  True
def zc_t134 (a i v : Int) : Prop :=
  if i = 0 then (0 ≤ v ∧ v ≤ 3) else
  if i = 1 then (v = 135) else
  if i = 2 then (v = 136) else
  if i = 3 then (v = 137) else
  if i = 4 then (v = 138) else
  if i = 5 then (0 ≤ v ∧ v ≤ 10) else
  True
def zc_t140 (a i v : Int) : Prop :=
  if i = 0 then (v = 3) else
  if i = 1 then (v = 139) else
  if i = 2 then (v = 141) else
  if i = 3 then (v = 147) else
  if i = 4 then (v = 153) else
  if i = 5 then (0 ≤ v ∧ v ≤ 100) else
  if i = 6 then (0 ≤ v ∧ v ≤ 99) else
  if i = 7 then (v = 254) else
  if i = 8 then (zq_in v) else
  if i = 9 then (zq_in v) else
  if i = 10 then (zq_in v) else
  if i = 11 then (zq_in v) else
  if i = 12 then (zq_in v) else
  if i = 13 then (zq_in v) else
  if i = 14 then (zq_in v) else
  True
def zc_t141 (a i v : Int) : Prop :=
  if i = 0 then (0 ≤ v ∧ v ≤ 255) else
  if i = 1 then (v = 142) else
  if i = 2 then (v = 143) else
  if i = 3 then (zq_in v) else
  if i = 4 then (zq_in v) else
  if i = 5 then (v = 144) else
  if i = 6 then (0 ≤ v ∧ v ≤ 3) else
  if i = 7 then (v = 145) else
  if i = 8 then (v = 146) else
  True
def zc_t147 (a i v : Int) : Prop :=
  if i = 0 then (0 ≤ v ∧ v ≤ 255) else
  if i = 1 then (v = 148) else
  if i = 2 then (v = 149) else
  if i = 3 then (zq_in v) else
  if i = 4 then (zq_in v) else
  if i = 5 then (v = 150) else
  if i = 6 then (0 ≤ v ∧ v ≤ 3) else
  if i = 7 then (v = 151) else
  if i = 8 then (v = 152) else
  True
def zc_t255 (a i v : Int) : Prop :=
  if i = 0 then (v = 3) else
  if i = 1 then (zc_kd v = 256) else
  if i = 2 then (zc_kd v = 256) else
  if i = 3 then (0 ≤ v ∧ v ≤ 1) else
  if i = 4 then (0 ≤ v ∧ v ≤ 8) else
  if i = 5 then (v = 272) else
  if i = 6 then (v = 273) else
  if i = 7 then (v = 274) else
  if i = 8 then (v = 275) else
  if i = 9 then (0 ≤ v ∧ v ≤ 64) else
  True
def zc_t256 (a i v : Int) : Prop :=
  if i = 0 then (v = a + 1) else
  if i = 1 then (v = a + 2) else
  if i = 2 then (v = a + 3) else
  if i = 3 then (v = a + 4) else
  if i = 4 then (v = a + 5) else
  if i = 5 then (0 ≤ v ∧ v ≤ 39) else
  if i = 6 then (0 ≤ v ∧ v ≤ 20) else
  if i = 7 then (v = a + 6) else
  if i = 8 then (v = a + 7) else
  if i = 9 then (0 ≤ v ∧ v ≤ 6) else
  True
def zc_t276 (a i v : Int) : Prop :=
  if i = 0 then (v = 277) else
  if i = 1 then (v = 278) else
  if i = 2 then (v = 279) else
  True
def zc_tk (k : Nat) (a i v : Int) : Prop :=
  if k = 0 then zc_t0 a i v else
  if k = 1 then zc_t1 a i v else
  if k = 2 then (0 ≤ v ∧ v ≤ 255) else
  if k = 3 then zc_t3 a i v else
  if k = 4 then zc_t4 a i v else
  if k = 5 then (zq_in v) else
  if k = 6 then (0 ≤ v ∧ v ≤ 9) else
  if k = 7 then (0 ≤ v ∧ v ≤ 271 ∧ zc_op v) else
  if k = 8 then (zq_in v) else
  if k = 9 then (0 ≤ v ∧ v ≤ 271 ∧ zc_op v) else
  if k = 10 then (0 ≤ i → i < 20 → zc_kd v = 4) else
  if k = 11 then (-1 ≤ v ∧ v ≤ 19) else
  if k = 132 then zc_t132 a i v else
  if k = 133 then (zq_in v) else
  if k = 134 then zc_t134 a i v else
  if k = 135 then (-1 ≤ v ∧ v ≤ 3) else
  if k = 136 then (-1 ≤ v ∧ v ≤ 3) else
  if k = 137 then (-1 ≤ v ∧ v ≤ 3) else
  if k = 138 then (0 ≤ v ∧ v ≤ 9) else
  if k = 139 then (zq_in v) else
  if k = 140 then zc_t140 a i v else
  if k = 141 then zc_t141 a i v else
  if k = 142 then (zq_in v) else
  if k = 143 then (zq_in v) else
  if k = 144 then (zq_in v) else
  if k = 145 then (zq_in v) else
  if k = 146 then (zq_in v) else
  if k = 147 then zc_t147 a i v else
  if k = 148 then (zq_in v) else
  if k = 149 then (zq_in v) else
  if k = 150 then (zq_in v) else
  if k = 151 then (zq_in v) else
  if k = 152 then (zq_in v) else
  if k = 153 then (0 ≤ i → i < 100 → v = 154 + i) else
  if k = 154 then ((i = 6 → 0 ≤ v ∧ v ≤ 3) ∧ zq_in v) else
  if k = 254 then (zq_in v) else
  if k = 255 then zc_t255 a i v else
  if k = 256 then zc_t256 a i v else
  if k = 257 then (zq_in v) else
  if k = 258 then (zq_in v) else
  if k = 259 then (0 ≤ v ∧ v ≤ 38) else
  if k = 260 then (0 ≤ v ∧ v ≤ 38) else
  if k = 261 then (zq_in v) else
  if k = 262 then (0 ≤ v ∧ v ≤ 38) else
  if k = 263 then (zq_in v) else
  if k = 272 then (zq_in v) else
  if k = 273 then (zq_in v) else
  if k = 274 then (zq_in v) else
  if k = 275 then (zq_in v) else
  if k = 276 then zc_t276 a i v else
  if k = 277 then (-1 ≤ v ∧ v ≤ 2) else
  if k = 278 then (0 ≤ v ∧ v ≤ 30) else
  if k = 279 then (0 ≤ i → i < 4 → v = 280 + i) else
  if k = 280 then (zq_in v) else
  True
def zc_T (σ : zq_S) : Prop := ∀ a i, zc_tk (zc_kd a) a i (σ a i)
theorem zc_up {σ τ : zq_S} {a i v : Int} {k : Nat} (e : τ = zq_up σ a i v) (h : zc_T σ) (hk : zc_kd a = k) (hv : zc_tk k a i v) : zc_T τ := by
  subst e
  intro a2 i2
  by_cases hc : a2 = a ∧ i2 = i
  · obtain ⟨rfl, rfl⟩ := hc
    rw [zq_up_same, hk]
    exact hv
  · rw [zq_up_ne hc]
    exact h a2 i2
theorem zc_at {σ : zq_S} {a : Int} {k : Nat} (h : zc_T σ) (hk : zc_kd a = k) (i : Int) : zc_tk k a i (σ a i) := by
  have := h a i
  rw [hk] at this
  exact this
theorem zc_pos {a : Int} {k : Nat} (h : zc_kd a = k) (hk : Nat.ble k 283 = true) : 0 ≤ a ∧ a < ((284 : Nat) : Int) := by
  have hk := Nat.le_of_ble_eq_true hk
  unfold zc_kd at h
  repeat' split at h
  all_goals omega
theorem zc_dk {a b i j : Int} {k l : Nat} (ha : zc_kd a = k) (hb : zc_kd b = l) (h : Nat.beq k l = false) : ¬ (a = b ∧ i = j) := by
  rintro ⟨rfl, -⟩
  have e : k = l := ha.symm.trans hb
  subst e
  rw [Nat.beq_refl] at h
  cases h
theorem zc_s0 : zc_kd 0 = 0 := rfl
theorem zc_k0 {a : Int} (h : zc_kd a = 0) : zc_w.2 (zc_w.1 a) = .inr 11 := congrArg zc_ki h
theorem zc_s1 : zc_kd 1 = 1 := rfl
theorem zc_k1 {a : Int} (h : zc_kd a = 1) : zc_w.2 (zc_w.1 a) = .inr 8 := congrArg zc_ki h
theorem zc_s2 : zc_kd 2 = 2 := rfl
theorem zc_k2 {a : Int} (h : zc_kd a = 2) : zc_w.2 (zc_w.1 a) = .inl (0, 80) := congrArg zc_ki h
theorem zc_s3 : zc_kd 3 = 3 := rfl
theorem zc_k3 {a : Int} (h : zc_kd a = 3) : zc_w.2 (zc_w.1 a) = .inr 9 := congrArg zc_ki h
theorem zc_k4 {a : Int} (h : zc_kd a = 4) : zc_w.2 (zc_w.1 a) = .inr 3 := congrArg zc_ki h
theorem zc_k5 {a : Int} (h : zc_kd a = 5) : zc_w.2 (zc_w.1 a) = .inl (0, 4) := congrArg zc_ki h
theorem zc_k6 {a : Int} (h : zc_kd a = 6) : zc_w.2 (zc_w.1 a) = .inl (0, 3) := congrArg zc_ki h
theorem zc_k7 {a : Int} (h : zc_kd a = 7) : zc_w.2 (zc_w.1 a) = .inl (0, 3) := congrArg zc_ki h
theorem zc_k8 {a : Int} (h : zc_kd a = 8) : zc_w.2 (zc_w.1 a) = .inl (0, 3) := congrArg zc_ki h
theorem zc_k9 {a : Int} (h : zc_kd a = 9) : zc_w.2 (zc_w.1 a) = .inl (0, 3) := congrArg zc_ki h
theorem zc_s10 : zc_kd 10 = 10 := rfl
theorem zc_k10 {a : Int} (h : zc_kd a = 10) : zc_w.2 (zc_w.1 a) = .inl (1, 20) := congrArg zc_ki h
theorem zc_s11 : zc_kd 11 = 11 := rfl
theorem zc_k11 {a : Int} (h : zc_kd a = 11) : zc_w.2 (zc_w.1 a) = .inl (0, 4096) := congrArg zc_ki h
theorem zc_s132 : zc_kd 132 = 132 := rfl
theorem zc_k132 {a : Int} (h : zc_kd a = 132) : zc_w.2 (zc_w.1 a) = .inr 4 := congrArg zc_ki h
theorem zc_s133 : zc_kd 133 = 133 := rfl
theorem zc_k133 {a : Int} (h : zc_kd a = 133) : zc_w.2 (zc_w.1 a) = .inl (0, 16) := congrArg zc_ki h
theorem zc_s134 : zc_kd 134 = 134 := rfl
theorem zc_k134 {a : Int} (h : zc_kd a = 134) : zc_w.2 (zc_w.1 a) = .inr 2 := congrArg zc_ki h
theorem zc_s135 : zc_kd 135 = 135 := rfl
theorem zc_k135 {a : Int} (h : zc_kd a = 135) : zc_w.2 (zc_w.1 a) = .inl (0, 10) := congrArg zc_ki h
theorem zc_s136 : zc_kd 136 = 136 := rfl
theorem zc_k136 {a : Int} (h : zc_kd a = 136) : zc_w.2 (zc_w.1 a) = .inl (0, 9) := congrArg zc_ki h
theorem zc_s137 : zc_kd 137 = 137 := rfl
theorem zc_k137 {a : Int} (h : zc_kd a = 137) : zc_w.2 (zc_w.1 a) = .inl (0, 9) := congrArg zc_ki h
theorem zc_s138 : zc_kd 138 = 138 := rfl
theorem zc_k138 {a : Int} (h : zc_kd a = 138) : zc_w.2 (zc_w.1 a) = .inl (0, 10) := congrArg zc_ki h
theorem zc_s139 : zc_kd 139 = 139 := rfl
theorem zc_k139 {a : Int} (h : zc_kd a = 139) : zc_w.2 (zc_w.1 a) = .inl (0, 64) := congrArg zc_ki h
theorem zc_s140 : zc_kd 140 = 140 := rfl
theorem zc_k140 {a : Int} (h : zc_kd a = 140) : zc_w.2 (zc_w.1 a) = .inr 6 := congrArg zc_ki h
theorem zc_s141 : zc_kd 141 = 141 := rfl
theorem zc_k141 {a : Int} (h : zc_kd a = 141) : zc_w.2 (zc_w.1 a) = .inr 10 := congrArg zc_ki h
theorem zc_s142 : zc_kd 142 = 142 := rfl
theorem zc_k142 {a : Int} (h : zc_kd a = 142) : zc_w.2 (zc_w.1 a) = .inl (0, 8) := congrArg zc_ki h
theorem zc_s143 : zc_kd 143 = 143 := rfl
theorem zc_k143 {a : Int} (h : zc_kd a = 143) : zc_w.2 (zc_w.1 a) = .inl (0, 256) := congrArg zc_ki h
theorem zc_s144 : zc_kd 144 = 144 := rfl
theorem zc_k144 {a : Int} (h : zc_kd a = 144) : zc_w.2 (zc_w.1 a) = .inl (0, 4) := congrArg zc_ki h
theorem zc_s145 : zc_kd 145 = 145 := rfl
theorem zc_k145 {a : Int} (h : zc_kd a = 145) : zc_w.2 (zc_w.1 a) = .inl (0, 3) := congrArg zc_ki h
theorem zc_s146 : zc_kd 146 = 146 := rfl
theorem zc_k146 {a : Int} (h : zc_kd a = 146) : zc_w.2 (zc_w.1 a) = .inl (0, 3) := congrArg zc_ki h
theorem zc_s147 : zc_kd 147 = 147 := rfl
theorem zc_k147 {a : Int} (h : zc_kd a = 147) : zc_w.2 (zc_w.1 a) = .inr 10 := congrArg zc_ki h
theorem zc_s148 : zc_kd 148 = 148 := rfl
theorem zc_k148 {a : Int} (h : zc_kd a = 148) : zc_w.2 (zc_w.1 a) = .inl (0, 8) := congrArg zc_ki h
theorem zc_s149 : zc_kd 149 = 149 := rfl
theorem zc_k149 {a : Int} (h : zc_kd a = 149) : zc_w.2 (zc_w.1 a) = .inl (0, 256) := congrArg zc_ki h
theorem zc_s150 : zc_kd 150 = 150 := rfl
theorem zc_k150 {a : Int} (h : zc_kd a = 150) : zc_w.2 (zc_w.1 a) = .inl (0, 4) := congrArg zc_ki h
theorem zc_s151 : zc_kd 151 = 151 := rfl
theorem zc_k151 {a : Int} (h : zc_kd a = 151) : zc_w.2 (zc_w.1 a) = .inl (0, 3) := congrArg zc_ki h
theorem zc_s152 : zc_kd 152 = 152 := rfl
theorem zc_k152 {a : Int} (h : zc_kd a = 152) : zc_w.2 (zc_w.1 a) = .inl (0, 3) := congrArg zc_ki h
theorem zc_s153 : zc_kd 153 = 153 := rfl
theorem zc_k153 {a : Int} (h : zc_kd a = 153) : zc_w.2 (zc_w.1 a) = .inl (2, 100) := congrArg zc_ki h
theorem zc_k154 {a : Int} (h : zc_kd a = 154) : zc_w.2 (zc_w.1 a) = .inl (0, 13) := congrArg zc_ki h
theorem zc_s254 : zc_kd 254 = 254 := rfl
theorem zc_k254 {a : Int} (h : zc_kd a = 254) : zc_w.2 (zc_w.1 a) = .inl (0, 64) := congrArg zc_ki h
theorem zc_s255 : zc_kd 255 = 255 := rfl
theorem zc_k255 {a : Int} (h : zc_kd a = 255) : zc_w.2 (zc_w.1 a) = .inr 1 := congrArg zc_ki h
theorem zc_k256 {a : Int} (h : zc_kd a = 256) : zc_w.2 (zc_w.1 a) = .inr 7 := congrArg zc_ki h
theorem zc_k257 {a : Int} (h : zc_kd a = 257) : zc_w.2 (zc_w.1 a) = .inl (0, 39) := congrArg zc_ki h
theorem zc_k258 {a : Int} (h : zc_kd a = 258) : zc_w.2 (zc_w.1 a) = .inl (0, 39) := congrArg zc_ki h
theorem zc_k259 {a : Int} (h : zc_kd a = 259) : zc_w.2 (zc_w.1 a) = .inl (0, 39) := congrArg zc_ki h
theorem zc_k260 {a : Int} (h : zc_kd a = 260) : zc_w.2 (zc_w.1 a) = .inl (0, 39) := congrArg zc_ki h
theorem zc_k261 {a : Int} (h : zc_kd a = 261) : zc_w.2 (zc_w.1 a) = .inl (0, 39) := congrArg zc_ki h
theorem zc_k262 {a : Int} (h : zc_kd a = 262) : zc_w.2 (zc_w.1 a) = .inl (0, 7) := congrArg zc_ki h
theorem zc_k263 {a : Int} (h : zc_kd a = 263) : zc_w.2 (zc_w.1 a) = .inl (0, 7) := congrArg zc_ki h
theorem zc_s272 : zc_kd 272 = 272 := rfl
theorem zc_k272 {a : Int} (h : zc_kd a = 272) : zc_w.2 (zc_w.1 a) = .inl (0, 39) := congrArg zc_ki h
theorem zc_s273 : zc_kd 273 = 273 := rfl
theorem zc_k273 {a : Int} (h : zc_kd a = 273) : zc_w.2 (zc_w.1 a) = .inl (0, 39) := congrArg zc_ki h
theorem zc_s274 : zc_kd 274 = 274 := rfl
theorem zc_k274 {a : Int} (h : zc_kd a = 274) : zc_w.2 (zc_w.1 a) = .inl (0, 39) := congrArg zc_ki h
theorem zc_s275 : zc_kd 275 = 275 := rfl
theorem zc_k275 {a : Int} (h : zc_kd a = 275) : zc_w.2 (zc_w.1 a) = .inl (0, 64) := congrArg zc_ki h
theorem zc_s276 : zc_kd 276 = 276 := rfl
theorem zc_k276 {a : Int} (h : zc_kd a = 276) : zc_w.2 (zc_w.1 a) = .inr 5 := congrArg zc_ki h
theorem zc_s277 : zc_kd 277 = 277 := rfl
theorem zc_k277 {a : Int} (h : zc_kd a = 277) : zc_w.2 (zc_w.1 a) = .inl (0, 4) := congrArg zc_ki h
theorem zc_s278 : zc_kd 278 = 278 := rfl
theorem zc_k278 {a : Int} (h : zc_kd a = 278) : zc_w.2 (zc_w.1 a) = .inl (0, 4) := congrArg zc_ki h
theorem zc_s279 : zc_kd 279 = 279 := rfl
theorem zc_k279 {a : Int} (h : zc_kd a = 279) : zc_w.2 (zc_w.1 a) = .inl (2, 4) := congrArg zc_ki h
theorem zc_k280 {a : Int} (h : zc_kd a = 280) : zc_w.2 (zc_w.1 a) = .inl (0, 30) := congrArg zc_ki h
theorem zc_v4 {a : Int} (h : zc_kd a = 4) : a = 4 ∨ (12 ≤ a ∧ a ≤ 131 ∧ (a - 12) % 6 = 0) := by
  unfold zc_kd at h
  repeat' split at h
  all_goals omega
theorem zc_p4_1 {a : Int} (h : zc_kd a = 4) : zc_kd (a + 1) = 5 := by
  rcases zc_v4 h with rfl | ⟨h1, h2, h3⟩
  · rfl
  · unfold zc_kd
    rw [if_neg (by omega), if_neg (by omega), if_pos (by omega)]
    omega
theorem zc_p4_2 {a : Int} (h : zc_kd a = 4) : zc_kd (a + 2) = 6 := by
  rcases zc_v4 h with rfl | ⟨h1, h2, h3⟩
  · rfl
  · unfold zc_kd
    rw [if_neg (by omega), if_neg (by omega), if_pos (by omega)]
    omega
theorem zc_p4_3 {a : Int} (h : zc_kd a = 4) : zc_kd (a + 3) = 7 := by
  rcases zc_v4 h with rfl | ⟨h1, h2, h3⟩
  · rfl
  · unfold zc_kd
    rw [if_neg (by omega), if_neg (by omega), if_pos (by omega)]
    omega
theorem zc_p4_4 {a : Int} (h : zc_kd a = 4) : zc_kd (a + 4) = 8 := by
  rcases zc_v4 h with rfl | ⟨h1, h2, h3⟩
  · rfl
  · unfold zc_kd
    rw [if_neg (by omega), if_neg (by omega), if_pos (by omega)]
    omega
theorem zc_p4_5 {a : Int} (h : zc_kd a = 4) : zc_kd (a + 5) = 9 := by
  rcases zc_v4 h with rfl | ⟨h1, h2, h3⟩
  · rfl
  · unfold zc_kd
    rw [if_neg (by omega), if_neg (by omega), if_pos (by omega)]
    omega
theorem zc_v256 {a : Int} (h : zc_kd a = 256) : a = 256 ∨ a = 264 := by
  unfold zc_kd at h
  repeat' split at h
  all_goals omega
theorem zc_p256_1 {a : Int} (h : zc_kd a = 256) : zc_kd (a + 1) = 257 := by
  rcases zc_v256 h with rfl | rfl <;> rfl
theorem zc_p256_2 {a : Int} (h : zc_kd a = 256) : zc_kd (a + 2) = 258 := by
  rcases zc_v256 h with rfl | rfl <;> rfl
theorem zc_p256_3 {a : Int} (h : zc_kd a = 256) : zc_kd (a + 3) = 259 := by
  rcases zc_v256 h with rfl | rfl <;> rfl
theorem zc_p256_4 {a : Int} (h : zc_kd a = 256) : zc_kd (a + 4) = 260 := by
  rcases zc_v256 h with rfl | rfl <;> rfl
theorem zc_p256_5 {a : Int} (h : zc_kd a = 256) : zc_kd (a + 5) = 261 := by
  rcases zc_v256 h with rfl | rfl <;> rfl
theorem zc_p256_6 {a : Int} (h : zc_kd a = 256) : zc_kd (a + 6) = 262 := by
  rcases zc_v256 h with rfl | rfl <;> rfl
theorem zc_p256_7 {a : Int} (h : zc_kd a = 256) : zc_kd (a + 7) = 263 := by
  rcases zc_v256 h with rfl | rfl <;> rfl
theorem zc_e154 {i : Int} (h0 : 0 ≤ i) (h1 : i < 100) : zc_kd (154 + i) = 154 := by
  unfold zc_kd
  repeat' split
  all_goals omega
theorem zc_e280 {i : Int} (h0 : 0 ≤ i) (h1 : i < 4) : zc_kd (280 + i) = 280 := by
  unfold zc_kd
  repeat' split
  all_goals omega
theorem zc_g0_0 {σ : zq_S} {a : Int} (h : zc_T σ) (hk : zc_kd a = 0) : (σ a 0) = 1 := zc_at h hk 0
theorem zc_g0_1 {σ : zq_S} {a : Int} (h : zc_T σ) (hk : zc_kd a = 0) : (σ a 1) = 3 := zc_at h hk 1
theorem zc_g0_2 {σ : zq_S} {a : Int} (h : zc_T σ) (hk : zc_kd a = 0) : (σ a 2) = 132 := zc_at h hk 2
theorem zc_g0_3 {σ : zq_S} {a : Int} (h : zc_T σ) (hk : zc_kd a = 0) : (σ a 3) = 134 := zc_at h hk 3
theorem zc_g0_4 {σ : zq_S} {a : Int} (h : zc_T σ) (hk : zc_kd a = 0) : (σ a 4) = 139 := zc_at h hk 4
theorem zc_g0_5 {σ : zq_S} {a : Int} (h : zc_T σ) (hk : zc_kd a = 0) : (σ a 5) = 140 := zc_at h hk 5
theorem zc_g0_6 {σ : zq_S} {a : Int} (h : zc_T σ) (hk : zc_kd a = 0) : (σ a 6) = 255 := zc_at h hk 6
theorem zc_g0_7 {σ : zq_S} {a : Int} (h : zc_T σ) (hk : zc_kd a = 0) : (σ a 7) = 276 := zc_at h hk 7
theorem zc_g1_0 {σ : zq_S} {a : Int} (h : zc_T σ) (hk : zc_kd a = 1) : (σ a 0) = 2 := zc_at h hk 0
theorem zc_g1_1 {σ : zq_S} {a : Int} (h : zc_T σ) (hk : zc_kd a = 1) : 0 ≤ (σ a 1) ∧ (σ a 1) ≤ 80 := zc_at h hk 1
theorem zc_u1_1 {σ τ : zq_S} {a v : Int} (e : τ = zq_up σ a 1 v) (h : zc_T σ) (hk : zc_kd a = 1) (hv : 0 ≤ v ∧ v ≤ 80) : zc_T τ := zc_up (i := 1) e h hk hv
theorem zc_g1_2 {σ : zq_S} {a : Int} (h : zc_T σ) (hk : zc_kd a = 1) : 0 ≤ (σ a 2) ∧ (σ a 2) ≤ 80 := zc_at h hk 2
theorem zc_u1_2 {σ τ : zq_S} {a v : Int} (e : τ = zq_up σ a 2 v) (h : zc_T σ) (hk : zc_kd a = 1) (hv : 0 ≤ v ∧ v ≤ 80) : zc_T τ := zc_up (i := 2) e h hk hv
theorem zc_g1_3 {σ : zq_S} {a : Int} (h : zc_T σ) (hk : zc_kd a = 1) : 0 ≤ (σ a 3) ∧ (σ a 3) ≤ 80 := zc_at h hk 3
theorem zc_u1_3 {σ τ : zq_S} {a v : Int} (e : τ = zq_up σ a 3 v) (h : zc_T σ) (hk : zc_kd a = 1) (hv : 0 ≤ v ∧ v ≤ 80) : zc_T τ := zc_up (i := 3) e h hk hv
theorem zc_g3_0 {σ : zq_S} {a : Int} (h : zc_T σ) (hk : zc_kd a = 3) : 0 ≤ (σ a 0) ∧ (σ a 0) ≤ 8 := zc_at h hk 0
theorem zc_u3_0 {σ τ : zq_S} {a v : Int} (e : τ = zq_up σ a 0 v) (h : zc_T σ) (hk : zc_kd a = 3) (hv : 0 ≤ v ∧ v ≤ 8) : zc_T τ := zc_up (i := 0) e h hk hv
theorem zc_g3_1 {σ : zq_S} {a : Int} (h : zc_T σ) (hk : zc_kd a = 3) : 0 ≤ (σ a 1) ∧ (σ a 1) ≤ 3 := zc_at h hk 1
theorem zc_u3_1 {σ τ : zq_S} {a v : Int} (e : τ = zq_up σ a 1 v) (h : zc_T σ) (hk : zc_kd a = 3) (hv : 0 ≤ v ∧ v ≤ 3) : zc_T τ := zc_up (i := 1) e h hk hv
theorem zc_g3_2 {σ : zq_S} {a : Int} (h : zc_T σ) (hk : zc_kd a = 3) : 0 ≤ (σ a 2) ∧ (σ a 2) ≤ 12 := zc_at h hk 2
theorem zc_u3_2 {σ τ : zq_S} {a v : Int} (e : τ = zq_up σ a 2 v) (h : zc_T σ) (hk : zc_kd a = 3) (hv : 0 ≤ v ∧ v ≤ 12) : zc_T τ := zc_up (i := 2) e h hk hv
theorem zc_g3_3 {σ : zq_S} {a : Int} (h : zc_T σ) (hk : zc_kd a = 3) : 0 ≤ (σ a 3) ∧ (σ a 3) ≤ 20 := zc_at h hk 3
theorem zc_u3_3 {σ τ : zq_S} {a v : Int} (e : τ = zq_up σ a 3 v) (h : zc_T σ) (hk : zc_kd a = 3) (hv : 0 ≤ v ∧ v ≤ 20) : zc_T τ := zc_up (i := 3) e h hk hv
theorem zc_g3_4 {σ : zq_S} {a : Int} (h : zc_T σ) (hk : zc_kd a = 3) : zq_in (σ a 4) := zc_at h hk 4
theorem zc_u3_4 {σ τ : zq_S} {a v : Int} (e : τ = zq_up σ a 4 v) (h : zc_T σ) (hk : zc_kd a = 3) (hv : zq_in v) : zc_T τ := zc_up (i := 4) e h hk hv
theorem zc_g3_5 {σ : zq_S} {a : Int} (h : zc_T σ) (hk : zc_kd a = 3) : zc_kd (σ a 5) = 4 := zc_at h hk 5
theorem zc_u3_5 {σ τ : zq_S} {a v : Int} (e : τ = zq_up σ a 5 v) (h : zc_T σ) (hk : zc_kd a = 3) (hv : zc_kd v = 4) : zc_T τ := zc_up (i := 5) e h hk hv
theorem zc_g3_6 {σ : zq_S} {a : Int} (h : zc_T σ) (hk : zc_kd a = 3) : (σ a 6) = 10 := zc_at h hk 6
theorem zc_g3_7 {σ : zq_S} {a : Int} (h : zc_T σ) (hk : zc_kd a = 3) : (σ a 7) = 11 := zc_at h hk 7
theorem zc_g4_0 {σ : zq_S} {a : Int} (h : zc_T σ) (hk : zc_kd a = 4) : zq_in (σ a 0) := zc_at h hk 0
theorem zc_u4_0 {σ τ : zq_S} {a v : Int} (e : τ = zq_up σ a 0 v) (h : zc_T σ) (hk : zc_kd a = 4) (hv : zq_in v) : zc_T τ := zc_up (i := 0) e h hk hv
theorem zc_g4_1 {σ : zq_S} {a : Int} (h : zc_T σ) (hk : zc_kd a = 4) : zq_in (σ a 1) := zc_at h hk 1
theorem zc_u4_1 {σ τ : zq_S} {a v : Int} (e : τ = zq_up σ a 1 v) (h : zc_T σ) (hk : zc_kd a = 4) (hv : zq_in v) : zc_T τ := zc_up (i := 1) e h hk hv
theorem zc_g4_2 {σ : zq_S} {a : Int} (h : zc_T σ) (hk : zc_kd a = 4) : 0 ≤ (σ a 2) ∧ (σ a 2) ≤ 4095 := zc_at h hk 2
theorem zc_u4_2 {σ τ : zq_S} {a v : Int} (e : τ = zq_up σ a 2 v) (h : zc_T σ) (hk : zc_kd a = 4) (hv : 0 ≤ v ∧ v ≤ 4095) : zc_T τ := zc_up (i := 2) e h hk hv
theorem zc_g4_3 {σ : zq_S} {a : Int} (h : zc_T σ) (hk : zc_kd a = 4) : (σ a 3) = a + 1 := zc_at h hk 3
theorem zc_g4_4 {σ : zq_S} {a : Int} (h : zc_T σ) (hk : zc_kd a = 4) : zq_in (σ a 4) := zc_at h hk 4
theorem zc_u4_4 {σ τ : zq_S} {a v : Int} (e : τ = zq_up σ a 4 v) (h : zc_T σ) (hk : zc_kd a = 4) (hv : zq_in v) : zc_T τ := zc_up (i := 4) e h hk hv
theorem zc_g4_5 {σ : zq_S} {a : Int} (h : zc_T σ) (hk : zc_kd a = 4) : 0 ≤ (σ a 5) ∧ (σ a 5) ≤ 9 := zc_at h hk 5
theorem zc_u4_5 {σ τ : zq_S} {a v : Int} (e : τ = zq_up σ a 5 v) (h : zc_T σ) (hk : zc_kd a = 4) (hv : 0 ≤ v ∧ v ≤ 9) : zc_T τ := zc_up (i := 5) e h hk hv
theorem zc_g4_6 {σ : zq_S} {a : Int} (h : zc_T σ) (hk : zc_kd a = 4) : 0 ≤ (σ a 6) ∧ (σ a 6) ≤ 3 := zc_at h hk 6
theorem zc_u4_6 {σ τ : zq_S} {a v : Int} (e : τ = zq_up σ a 6 v) (h : zc_T σ) (hk : zc_kd a = 4) (hv : 0 ≤ v ∧ v ≤ 3) : zc_T τ := zc_up (i := 6) e h hk hv
theorem zc_g4_7 {σ : zq_S} {a : Int} (h : zc_T σ) (hk : zc_kd a = 4) : (σ a 7) = a + 2 := zc_at h hk 7
theorem zc_g4_8 {σ : zq_S} {a : Int} (h : zc_T σ) (hk : zc_kd a = 4) : (σ a 8) = a + 3 := zc_at h hk 8
theorem zc_g4_9 {σ : zq_S} {a : Int} (h : zc_T σ) (hk : zc_kd a = 4) : (σ a 9) = a + 4 := zc_at h hk 9
theorem zc_g4_10 {σ : zq_S} {a : Int} (h : zc_T σ) (hk : zc_kd a = 4) : (σ a 10) = a + 5 := zc_at h hk 10
theorem zc_g4_11 {σ : zq_S} {a : Int} (h : zc_T σ) (hk : zc_kd a = 4) : zq_in (σ a 11) := zc_at h hk 11
theorem zc_u4_11 {σ τ : zq_S} {a v : Int} (e : τ = zq_up σ a 11 v) (h : zc_T σ) (hk : zc_kd a = 4) (hv : zq_in v) : zc_T τ := zc_up (i := 11) e h hk hv
theorem zc_g4_12 {σ : zq_S} {a : Int} (h : zc_T σ) (hk : zc_kd a = 4) : zq_in (σ a 12) := zc_at h hk 12
theorem zc_u4_12 {σ τ : zq_S} {a v : Int} (e : τ = zq_up σ a 12 v) (h : zc_T σ) (hk : zc_kd a = 4) (hv : zq_in v) : zc_T τ := zc_up (i := 12) e h hk hv
theorem zc_g4_13 {σ : zq_S} {a : Int} (h : zc_T σ) (hk : zc_kd a = 4) : zq_in (σ a 13) := zc_at h hk 13
theorem zc_u4_13 {σ τ : zq_S} {a v : Int} (e : τ = zq_up σ a 13 v) (h : zc_T σ) (hk : zc_kd a = 4) (hv : zq_in v) : zc_T τ := zc_up (i := 13) e h hk hv
theorem zc_g4_14 {σ : zq_S} {a : Int} (h : zc_T σ) (hk : zc_kd a = 4) : zq_in (σ a 14) := zc_at h hk 14
theorem zc_u4_14 {σ τ : zq_S} {a v : Int} (e : τ = zq_up σ a 14 v) (h : zc_T σ) (hk : zc_kd a = 4) (hv : zq_in v) : zc_T τ := zc_up (i := 14) e h hk hv
theorem zc_g4_15 {σ : zq_S} {a : Int} (h : zc_T σ) (hk : zc_kd a = 4) : zq_in (σ a 15) := zc_at h hk 15
theorem zc_u4_15 {σ τ : zq_S} {a v : Int} (e : τ = zq_up σ a 15 v) (h : zc_T σ) (hk : zc_kd a = 4) (hv : zq_in v) : zc_T τ := zc_up (i := 15) e h hk hv
theorem zc_g4_16 {σ : zq_S} {a : Int} (h : zc_T σ) (hk : zc_kd a = 4) : zq_in (σ a 16) := zc_at h hk 16
theorem zc_u4_16 {σ τ : zq_S} {a v : Int} (e : τ = zq_up σ a 16 v) (h : zc_T σ) (hk : zc_kd a = 4) (hv : zq_in v) : zc_T τ := zc_up (i := 16) e h hk hv
theorem zc_g132_0 {σ : zq_S} {a : Int} (h : zc_T σ) (hk : zc_kd a = 132) : (σ a 0) = 1 := zc_at h hk 0
theorem zc_g132_1 {σ : zq_S} {a : Int} (h : zc_T σ) (hk : zc_kd a = 132) : (σ a 1) = 3 := zc_at h hk 1
theorem zc_g132_2 {σ : zq_S} {a : Int} (h : zc_T σ) (hk : zc_kd a = 132) : (σ a 2) = 133 := zc_at h hk 2
theorem zc_g132_3 {σ : zq_S} {a : Int} (h : zc_T σ) (hk : zc_kd a = 132) : 0 ≤ (σ a 3) ∧ (σ a 3) ≤ 16 := zc_at h hk 3
theorem zc_u132_3 {σ τ : zq_S} {a v : Int} (e : τ = zq_up σ a 3 v) (h : zc_T σ) (hk : zc_kd a = 132) (hv : 0 ≤ v ∧ v ≤ 16) : zc_T τ := zc_up (i := 3) e h hk hv
theorem zc_g134_0 {σ : zq_S} {a : Int} (h : zc_T σ) (hk : zc_kd a = 134) : 0 ≤ (σ a 0) ∧ (σ a 0) ≤ 3 := zc_at h hk 0
theorem zc_g134_1 {σ : zq_S} {a : Int} (h : zc_T σ) (hk : zc_kd a = 134) : (σ a 1) = 135 := zc_at h hk 1
theorem zc_g134_2 {σ : zq_S} {a : Int} (h : zc_T σ) (hk : zc_kd a = 134) : (σ a 2) = 136 := zc_at h hk 2
theorem zc_g134_3 {σ : zq_S} {a : Int} (h : zc_T σ) (hk : zc_kd a = 134) : (σ a 3) = 137 := zc_at h hk 3
theorem zc_g134_4 {σ : zq_S} {a : Int} (h : zc_T σ) (hk : zc_kd a = 134) : (σ a 4) = 138 := zc_at h hk 4
theorem zc_g134_5 {σ : zq_S} {a : Int} (h : zc_T σ) (hk : zc_kd a = 134) : 0 ≤ (σ a 5) ∧ (σ a 5) ≤ 10 := zc_at h hk 5
theorem zc_u134_5 {σ τ : zq_S} {a v : Int} (e : τ = zq_up σ a 5 v) (h : zc_T σ) (hk : zc_kd a = 134) (hv : 0 ≤ v ∧ v ≤ 10) : zc_T τ := zc_up (i := 5) e h hk hv
theorem zc_g140_0 {σ : zq_S} {a : Int} (h : zc_T σ) (hk : zc_kd a = 140) : (σ a 0) = 3 := zc_at h hk 0
theorem zc_g140_1 {σ : zq_S} {a : Int} (h : zc_T σ) (hk : zc_kd a = 140) : (σ a 1) = 139 := zc_at h hk 1
theorem zc_g140_2 {σ : zq_S} {a : Int} (h : zc_T σ) (hk : zc_kd a = 140) : (σ a 2) = 141 := zc_at h hk 2
theorem zc_g140_3 {σ : zq_S} {a : Int} (h : zc_T σ) (hk : zc_kd a = 140) : (σ a 3) = 147 := zc_at h hk 3
theorem zc_g140_4 {σ : zq_S} {a : Int} (h : zc_T σ) (hk : zc_kd a = 140) : (σ a 4) = 153 := zc_at h hk 4
theorem zc_g140_5 {σ : zq_S} {a : Int} (h : zc_T σ) (hk : zc_kd a = 140) : 0 ≤ (σ a 5) ∧ (σ a 5) ≤ 100 := zc_at h hk 5
theorem zc_u140_5 {σ τ : zq_S} {a v : Int} (e : τ = zq_up σ a 5 v) (h : zc_T σ) (hk : zc_kd a = 140) (hv : 0 ≤ v ∧ v ≤ 100) : zc_T τ := zc_up (i := 5) e h hk hv
theorem zc_g140_6 {σ : zq_S} {a : Int} (h : zc_T σ) (hk : zc_kd a = 140) : 0 ≤ (σ a 6) ∧ (σ a 6) ≤ 99 := zc_at h hk 6
theorem zc_u140_6 {σ τ : zq_S} {a v : Int} (e : τ = zq_up σ a 6 v) (h : zc_T σ) (hk : zc_kd a = 140) (hv : 0 ≤ v ∧ v ≤ 99) : zc_T τ := zc_up (i := 6) e h hk hv
theorem zc_g140_7 {σ : zq_S} {a : Int} (h : zc_T σ) (hk : zc_kd a = 140) : (σ a 7) = 254 := zc_at h hk 7
theorem zc_g140_8 {σ : zq_S} {a : Int} (h : zc_T σ) (hk : zc_kd a = 140) : zq_in (σ a 8) := zc_at h hk 8
theorem zc_u140_8 {σ τ : zq_S} {a v : Int} (e : τ = zq_up σ a 8 v) (h : zc_T σ) (hk : zc_kd a = 140) (hv : zq_in v) : zc_T τ := zc_up (i := 8) e h hk hv
theorem zc_g140_9 {σ : zq_S} {a : Int} (h : zc_T σ) (hk : zc_kd a = 140) : zq_in (σ a 9) := zc_at h hk 9
theorem zc_u140_9 {σ τ : zq_S} {a v : Int} (e : τ = zq_up σ a 9 v) (h : zc_T σ) (hk : zc_kd a = 140) (hv : zq_in v) : zc_T τ := zc_up (i := 9) e h hk hv
theorem zc_g140_10 {σ : zq_S} {a : Int} (h : zc_T σ) (hk : zc_kd a = 140) : zq_in (σ a 10) := zc_at h hk 10
theorem zc_u140_10 {σ τ : zq_S} {a v : Int} (e : τ = zq_up σ a 10 v) (h : zc_T σ) (hk : zc_kd a = 140) (hv : zq_in v) : zc_T τ := zc_up (i := 10) e h hk hv
theorem zc_g140_11 {σ : zq_S} {a : Int} (h : zc_T σ) (hk : zc_kd a = 140) : zq_in (σ a 11) := zc_at h hk 11
theorem zc_u140_11 {σ τ : zq_S} {a v : Int} (e : τ = zq_up σ a 11 v) (h : zc_T σ) (hk : zc_kd a = 140) (hv : zq_in v) : zc_T τ := zc_up (i := 11) e h hk hv
theorem zc_g140_12 {σ : zq_S} {a : Int} (h : zc_T σ) (hk : zc_kd a = 140) : zq_in (σ a 12) := zc_at h hk 12
theorem zc_u140_12 {σ τ : zq_S} {a v : Int} (e : τ = zq_up σ a 12 v) (h : zc_T σ) (hk : zc_kd a = 140) (hv : zq_in v) : zc_T τ := zc_up (i := 12) e h hk hv
theorem zc_g140_13 {σ : zq_S} {a : Int} (h : zc_T σ) (hk : zc_kd a = 140) : zq_in (σ a 13) := zc_at h hk 13
theorem zc_u140_13 {σ τ : zq_S} {a v : Int} (e : τ = zq_up σ a 13 v) (h : zc_T σ) (hk : zc_kd a = 140) (hv : zq_in v) : zc_T τ := zc_up (i := 13) e h hk hv
theorem zc_g140_14 {σ : zq_S} {a : Int} (h : zc_T σ) (hk : zc_kd a = 140) : zq_in (σ a 14) := zc_at h hk 14
theorem zc_u140_14 {σ τ : zq_S} {a v : Int} (e : τ = zq_up σ a 14 v) (h : zc_T σ) (hk : zc_kd a = 140) (hv : zq_in v) : zc_T τ := zc_up (i := 14) e h hk hv
theorem zc_g141_0 {σ : zq_S} {a : Int} (h : zc_T σ) (hk : zc_kd a = 141) : 0 ≤ (σ a 0) ∧ (σ a 0) ≤ 255 := zc_at h hk 0
theorem zc_u141_0 {σ τ : zq_S} {a v : Int} (e : τ = zq_up σ a 0 v) (h : zc_T σ) (hk : zc_kd a = 141) (hv : 0 ≤ v ∧ v ≤ 255) : zc_T τ := zc_up (i := 0) e h hk hv
theorem zc_g141_1 {σ : zq_S} {a : Int} (h : zc_T σ) (hk : zc_kd a = 141) : (σ a 1) = 142 := zc_at h hk 1
theorem zc_g141_2 {σ : zq_S} {a : Int} (h : zc_T σ) (hk : zc_kd a = 141) : (σ a 2) = 143 := zc_at h hk 2
theorem zc_g141_3 {σ : zq_S} {a : Int} (h : zc_T σ) (hk : zc_kd a = 141) : zq_in (σ a 3) := zc_at h hk 3
theorem zc_u141_3 {σ τ : zq_S} {a v : Int} (e : τ = zq_up σ a 3 v) (h : zc_T σ) (hk : zc_kd a = 141) (hv : zq_in v) : zc_T τ := zc_up (i := 3) e h hk hv
theorem zc_g141_4 {σ : zq_S} {a : Int} (h : zc_T σ) (hk : zc_kd a = 141) : zq_in (σ a 4) := zc_at h hk 4
theorem zc_u141_4 {σ τ : zq_S} {a v : Int} (e : τ = zq_up σ a 4 v) (h : zc_T σ) (hk : zc_kd a = 141) (hv : zq_in v) : zc_T τ := zc_up (i := 4) e h hk hv
theorem zc_g141_5 {σ : zq_S} {a : Int} (h : zc_T σ) (hk : zc_kd a = 141) : (σ a 5) = 144 := zc_at h hk 5
theorem zc_g141_6 {σ : zq_S} {a : Int} (h : zc_T σ) (hk : zc_kd a = 141) : 0 ≤ (σ a 6) ∧ (σ a 6) ≤ 3 := zc_at h hk 6
theorem zc_u141_6 {σ τ : zq_S} {a v : Int} (e : τ = zq_up σ a 6 v) (h : zc_T σ) (hk : zc_kd a = 141) (hv : 0 ≤ v ∧ v ≤ 3) : zc_T τ := zc_up (i := 6) e h hk hv
theorem zc_g141_7 {σ : zq_S} {a : Int} (h : zc_T σ) (hk : zc_kd a = 141) : (σ a 7) = 145 := zc_at h hk 7
theorem zc_g141_8 {σ : zq_S} {a : Int} (h : zc_T σ) (hk : zc_kd a = 141) : (σ a 8) = 146 := zc_at h hk 8
theorem zc_g147_0 {σ : zq_S} {a : Int} (h : zc_T σ) (hk : zc_kd a = 147) : 0 ≤ (σ a 0) ∧ (σ a 0) ≤ 255 := zc_at h hk 0
theorem zc_u147_0 {σ τ : zq_S} {a v : Int} (e : τ = zq_up σ a 0 v) (h : zc_T σ) (hk : zc_kd a = 147) (hv : 0 ≤ v ∧ v ≤ 255) : zc_T τ := zc_up (i := 0) e h hk hv
theorem zc_g147_1 {σ : zq_S} {a : Int} (h : zc_T σ) (hk : zc_kd a = 147) : (σ a 1) = 148 := zc_at h hk 1
theorem zc_g147_2 {σ : zq_S} {a : Int} (h : zc_T σ) (hk : zc_kd a = 147) : (σ a 2) = 149 := zc_at h hk 2
theorem zc_g147_3 {σ : zq_S} {a : Int} (h : zc_T σ) (hk : zc_kd a = 147) : zq_in (σ a 3) := zc_at h hk 3
theorem zc_u147_3 {σ τ : zq_S} {a v : Int} (e : τ = zq_up σ a 3 v) (h : zc_T σ) (hk : zc_kd a = 147) (hv : zq_in v) : zc_T τ := zc_up (i := 3) e h hk hv
theorem zc_g147_4 {σ : zq_S} {a : Int} (h : zc_T σ) (hk : zc_kd a = 147) : zq_in (σ a 4) := zc_at h hk 4
theorem zc_u147_4 {σ τ : zq_S} {a v : Int} (e : τ = zq_up σ a 4 v) (h : zc_T σ) (hk : zc_kd a = 147) (hv : zq_in v) : zc_T τ := zc_up (i := 4) e h hk hv
theorem zc_g147_5 {σ : zq_S} {a : Int} (h : zc_T σ) (hk : zc_kd a = 147) : (σ a 5) = 150 := zc_at h hk 5
theorem zc_g147_6 {σ : zq_S} {a : Int} (h : zc_T σ) (hk : zc_kd a = 147) : 0 ≤ (σ a 6) ∧ (σ a 6) ≤ 3 := zc_at h hk 6
theorem zc_u147_6 {σ τ : zq_S} {a v : Int} (e : τ = zq_up σ a 6 v) (h : zc_T σ) (hk : zc_kd a = 147) (hv : 0 ≤ v ∧ v ≤ 3) : zc_T τ := zc_up (i := 6) e h hk hv
theorem zc_g147_7 {σ : zq_S} {a : Int} (h : zc_T σ) (hk : zc_kd a = 147) : (σ a 7) = 151 := zc_at h hk 7
theorem zc_g147_8 {σ : zq_S} {a : Int} (h : zc_T σ) (hk : zc_kd a = 147) : (σ a 8) = 152 := zc_at h hk 8
theorem zc_g255_0 {σ : zq_S} {a : Int} (h : zc_T σ) (hk : zc_kd a = 255) : (σ a 0) = 3 := zc_at h hk 0
theorem zc_g255_1 {σ : zq_S} {a : Int} (h : zc_T σ) (hk : zc_kd a = 255) : zc_kd (σ a 1) = 256 := zc_at h hk 1
theorem zc_u255_1 {σ τ : zq_S} {a v : Int} (e : τ = zq_up σ a 1 v) (h : zc_T σ) (hk : zc_kd a = 255) (hv : zc_kd v = 256) : zc_T τ := zc_up (i := 1) e h hk hv
theorem zc_g255_2 {σ : zq_S} {a : Int} (h : zc_T σ) (hk : zc_kd a = 255) : zc_kd (σ a 2) = 256 := zc_at h hk 2
theorem zc_u255_2 {σ τ : zq_S} {a v : Int} (e : τ = zq_up σ a 2 v) (h : zc_T σ) (hk : zc_kd a = 255) (hv : zc_kd v = 256) : zc_T τ := zc_up (i := 2) e h hk hv
theorem zc_g255_3 {σ : zq_S} {a : Int} (h : zc_T σ) (hk : zc_kd a = 255) : 0 ≤ (σ a 3) ∧ (σ a 3) ≤ 1 := zc_at h hk 3
theorem zc_u255_3 {σ τ : zq_S} {a v : Int} (e : τ = zq_up σ a 3 v) (h : zc_T σ) (hk : zc_kd a = 255) (hv : 0 ≤ v ∧ v ≤ 1) : zc_T τ := zc_up (i := 3) e h hk hv
theorem zc_g255_4 {σ : zq_S} {a : Int} (h : zc_T σ) (hk : zc_kd a = 255) : 0 ≤ (σ a 4) ∧ (σ a 4) ≤ 8 := zc_at h hk 4
theorem zc_u255_4 {σ τ : zq_S} {a v : Int} (e : τ = zq_up σ a 4 v) (h : zc_T σ) (hk : zc_kd a = 255) (hv : 0 ≤ v ∧ v ≤ 8) : zc_T τ := zc_up (i := 4) e h hk hv
theorem zc_g255_5 {σ : zq_S} {a : Int} (h : zc_T σ) (hk : zc_kd a = 255) : (σ a 5) = 272 := zc_at h hk 5
theorem zc_g255_6 {σ : zq_S} {a : Int} (h : zc_T σ) (hk : zc_kd a = 255) : (σ a 6) = 273 := zc_at h hk 6
theorem zc_g255_7 {σ : zq_S} {a : Int} (h : zc_T σ) (hk : zc_kd a = 255) : (σ a 7) = 274 := zc_at h hk 7
theorem zc_g255_8 {σ : zq_S} {a : Int} (h : zc_T σ) (hk : zc_kd a = 255) : (σ a 8) = 275 := zc_at h hk 8
theorem zc_g255_9 {σ : zq_S} {a : Int} (h : zc_T σ) (hk : zc_kd a = 255) : 0 ≤ (σ a 9) ∧ (σ a 9) ≤ 64 := zc_at h hk 9
theorem zc_u255_9 {σ τ : zq_S} {a v : Int} (e : τ = zq_up σ a 9 v) (h : zc_T σ) (hk : zc_kd a = 255) (hv : 0 ≤ v ∧ v ≤ 64) : zc_T τ := zc_up (i := 9) e h hk hv
theorem zc_g256_0 {σ : zq_S} {a : Int} (h : zc_T σ) (hk : zc_kd a = 256) : (σ a 0) = a + 1 := zc_at h hk 0
theorem zc_g256_1 {σ : zq_S} {a : Int} (h : zc_T σ) (hk : zc_kd a = 256) : (σ a 1) = a + 2 := zc_at h hk 1
theorem zc_g256_2 {σ : zq_S} {a : Int} (h : zc_T σ) (hk : zc_kd a = 256) : (σ a 2) = a + 3 := zc_at h hk 2
theorem zc_g256_3 {σ : zq_S} {a : Int} (h : zc_T σ) (hk : zc_kd a = 256) : (σ a 3) = a + 4 := zc_at h hk 3
theorem zc_g256_4 {σ : zq_S} {a : Int} (h : zc_T σ) (hk : zc_kd a = 256) : (σ a 4) = a + 5 := zc_at h hk 4
theorem zc_g256_5 {σ : zq_S} {a : Int} (h : zc_T σ) (hk : zc_kd a = 256) : 0 ≤ (σ a 5) ∧ (σ a 5) ≤ 39 := zc_at h hk 5
theorem zc_u256_5 {σ τ : zq_S} {a v : Int} (e : τ = zq_up σ a 5 v) (h : zc_T σ) (hk : zc_kd a = 256) (hv : 0 ≤ v ∧ v ≤ 39) : zc_T τ := zc_up (i := 5) e h hk hv
theorem zc_g256_6 {σ : zq_S} {a : Int} (h : zc_T σ) (hk : zc_kd a = 256) : 0 ≤ (σ a 6) ∧ (σ a 6) ≤ 20 := zc_at h hk 6
theorem zc_u256_6 {σ τ : zq_S} {a v : Int} (e : τ = zq_up σ a 6 v) (h : zc_T σ) (hk : zc_kd a = 256) (hv : 0 ≤ v ∧ v ≤ 20) : zc_T τ := zc_up (i := 6) e h hk hv
theorem zc_g256_7 {σ : zq_S} {a : Int} (h : zc_T σ) (hk : zc_kd a = 256) : (σ a 7) = a + 6 := zc_at h hk 7
theorem zc_g256_8 {σ : zq_S} {a : Int} (h : zc_T σ) (hk : zc_kd a = 256) : (σ a 8) = a + 7 := zc_at h hk 8
theorem zc_g256_9 {σ : zq_S} {a : Int} (h : zc_T σ) (hk : zc_kd a = 256) : 0 ≤ (σ a 9) ∧ (σ a 9) ≤ 6 := zc_at h hk 9
theorem zc_u256_9 {σ τ : zq_S} {a v : Int} (e : τ = zq_up σ a 9 v) (h : zc_T σ) (hk : zc_kd a = 256) (hv : 0 ≤ v ∧ v ≤ 6) : zc_T τ := zc_up (i := 9) e h hk hv
theorem zc_g276_0 {σ : zq_S} {a : Int} (h : zc_T σ) (hk : zc_kd a = 276) : (σ a 0) = 277 := zc_at h hk 0
theorem zc_g276_1 {σ : zq_S} {a : Int} (h : zc_T σ) (hk : zc_kd a = 276) : (σ a 1) = 278 := zc_at h hk 1
theorem zc_g276_2 {σ : zq_S} {a : Int} (h : zc_T σ) (hk : zc_kd a = 276) : (σ a 2) = 279 := zc_at h hk 2
theorem zc_ga2 {σ : zq_S} {a : Int} (h : zc_T σ) (hk : zc_kd a = 2) (i : Int) : 0 ≤ (σ a i) ∧ (σ a i) ≤ 255 := zc_at h hk i
theorem zc_ua2 {σ τ : zq_S} {a i v : Int} (e : τ = zq_up σ a i v) (h : zc_T σ) (hk : zc_kd a = 2) (hv : 0 ≤ v ∧ v ≤ 255) : zc_T τ := zc_up e h hk hv
theorem zc_ga5 {σ : zq_S} {a : Int} (h : zc_T σ) (hk : zc_kd a = 5) (i : Int) : zq_in (σ a i) := zc_at h hk i
theorem zc_ua5 {σ τ : zq_S} {a i v : Int} (e : τ = zq_up σ a i v) (h : zc_T σ) (hk : zc_kd a = 5) (hv : zq_in v) : zc_T τ := zc_up e h hk hv
theorem zc_ga6 {σ : zq_S} {a : Int} (h : zc_T σ) (hk : zc_kd a = 6) (i : Int) : 0 ≤ (σ a i) ∧ (σ a i) ≤ 9 := zc_at h hk i
theorem zc_ua6 {σ τ : zq_S} {a i v : Int} (e : τ = zq_up σ a i v) (h : zc_T σ) (hk : zc_kd a = 6) (hv : 0 ≤ v ∧ v ≤ 9) : zc_T τ := zc_up e h hk hv
theorem zc_ga7 {σ : zq_S} {a : Int} (h : zc_T σ) (hk : zc_kd a = 7) (i : Int) : 0 ≤ (σ a i) ∧ (σ a i) ≤ 271 ∧ zc_op (σ a i) := zc_at h hk i
theorem zc_ua7 {σ τ : zq_S} {a i v : Int} (e : τ = zq_up σ a i v) (h : zc_T σ) (hk : zc_kd a = 7) (hv : 0 ≤ v ∧ v ≤ 271 ∧ zc_op v) : zc_T τ := zc_up e h hk hv
theorem zc_ga8 {σ : zq_S} {a : Int} (h : zc_T σ) (hk : zc_kd a = 8) (i : Int) : zq_in (σ a i) := zc_at h hk i
theorem zc_ua8 {σ τ : zq_S} {a i v : Int} (e : τ = zq_up σ a i v) (h : zc_T σ) (hk : zc_kd a = 8) (hv : zq_in v) : zc_T τ := zc_up e h hk hv
theorem zc_ga9 {σ : zq_S} {a : Int} (h : zc_T σ) (hk : zc_kd a = 9) (i : Int) : 0 ≤ (σ a i) ∧ (σ a i) ≤ 271 ∧ zc_op (σ a i) := zc_at h hk i
theorem zc_ua9 {σ τ : zq_S} {a i v : Int} (e : τ = zq_up σ a i v) (h : zc_T σ) (hk : zc_kd a = 9) (hv : 0 ≤ v ∧ v ≤ 271 ∧ zc_op v) : zc_T τ := zc_up e h hk hv
theorem zc_ga10 {σ : zq_S} {a : Int} (h : zc_T σ) (hk : zc_kd a = 10) (i : Int) : 0 ≤ i → i < 20 → zc_kd (σ a i) = 4 := zc_at h hk i
theorem zc_ua10 {σ τ : zq_S} {a i v : Int} (e : τ = zq_up σ a i v) (h : zc_T σ) (hk : zc_kd a = 10) (hv : 0 ≤ i → i < 20 → zc_kd v = 4) : zc_T τ := zc_up e h hk hv
theorem zc_ga11 {σ : zq_S} {a : Int} (h : zc_T σ) (hk : zc_kd a = 11) (i : Int) : -1 ≤ (σ a i) ∧ (σ a i) ≤ 19 := zc_at h hk i
theorem zc_ua11 {σ τ : zq_S} {a i v : Int} (e : τ = zq_up σ a i v) (h : zc_T σ) (hk : zc_kd a = 11) (hv : -1 ≤ v ∧ v ≤ 19) : zc_T τ := zc_up e h hk hv
theorem zc_ga133 {σ : zq_S} {a : Int} (h : zc_T σ) (hk : zc_kd a = 133) (i : Int) : zq_in (σ a i) := zc_at h hk i
theorem zc_ua133 {σ τ : zq_S} {a i v : Int} (e : τ = zq_up σ a i v) (h : zc_T σ) (hk : zc_kd a = 133) (hv : zq_in v) : zc_T τ := zc_up e h hk hv
theorem zc_ga135 {σ : zq_S} {a : Int} (h : zc_T σ) (hk : zc_kd a = 135) (i : Int) : -1 ≤ (σ a i) ∧ (σ a i) ≤ 3 := zc_at h hk i
theorem zc_ua135 {σ τ : zq_S} {a i v : Int} (e : τ = zq_up σ a i v) (h : zc_T σ) (hk : zc_kd a = 135) (hv : -1 ≤ v ∧ v ≤ 3) : zc_T τ := zc_up e h hk hv
theorem zc_ga136 {σ : zq_S} {a : Int} (h : zc_T σ) (hk : zc_kd a = 136) (i : Int) : -1 ≤ (σ a i) ∧ (σ a i) ≤ 3 := zc_at h hk i
theorem zc_ua136 {σ τ : zq_S} {a i v : Int} (e : τ = zq_up σ a i v) (h : zc_T σ) (hk : zc_kd a = 136) (hv : -1 ≤ v ∧ v ≤ 3) : zc_T τ := zc_up e h hk hv
theorem zc_ga137 {σ : zq_S} {a : Int} (h : zc_T σ) (hk : zc_kd a = 137) (i : Int) : -1 ≤ (σ a i) ∧ (σ a i) ≤ 3 := zc_at h hk i
theorem zc_ga138 {σ : zq_S} {a : Int} (h : zc_T σ) (hk : zc_kd a = 138) (i : Int) : 0 ≤ (σ a i) ∧ (σ a i) ≤ 9 := zc_at h hk i
theorem zc_ua138 {σ τ : zq_S} {a i v : Int} (e : τ = zq_up σ a i v) (h : zc_T σ) (hk : zc_kd a = 138) (hv : 0 ≤ v ∧ v ≤ 9) : zc_T τ := zc_up e h hk hv
theorem zc_ga139 {σ : zq_S} {a : Int} (h : zc_T σ) (hk : zc_kd a = 139) (i : Int) : zq_in (σ a i) := zc_at h hk i
theorem zc_ua139 {σ τ : zq_S} {a i v : Int} (e : τ = zq_up σ a i v) (h : zc_T σ) (hk : zc_kd a = 139) (hv : zq_in v) : zc_T τ := zc_up e h hk hv
theorem zc_ga142 {σ : zq_S} {a : Int} (h : zc_T σ) (hk : zc_kd a = 142) (i : Int) : zq_in (σ a i) := zc_at h hk i
theorem zc_ua142 {σ τ : zq_S} {a i v : Int} (e : τ = zq_up σ a i v) (h : zc_T σ) (hk : zc_kd a = 142) (hv : zq_in v) : zc_T τ := zc_up e h hk hv
theorem zc_ga143 {σ : zq_S} {a : Int} (h : zc_T σ) (hk : zc_kd a = 143) (i : Int) : zq_in (σ a i) := zc_at h hk i
theorem zc_ua143 {σ τ : zq_S} {a i v : Int} (e : τ = zq_up σ a i v) (h : zc_T σ) (hk : zc_kd a = 143) (hv : zq_in v) : zc_T τ := zc_up e h hk hv
theorem zc_ga144 {σ : zq_S} {a : Int} (h : zc_T σ) (hk : zc_kd a = 144) (i : Int) : zq_in (σ a i) := zc_at h hk i
theorem zc_ua144 {σ τ : zq_S} {a i v : Int} (e : τ = zq_up σ a i v) (h : zc_T σ) (hk : zc_kd a = 144) (hv : zq_in v) : zc_T τ := zc_up e h hk hv
theorem zc_ga145 {σ : zq_S} {a : Int} (h : zc_T σ) (hk : zc_kd a = 145) (i : Int) : zq_in (σ a i) := zc_at h hk i
theorem zc_ua145 {σ τ : zq_S} {a i v : Int} (e : τ = zq_up σ a i v) (h : zc_T σ) (hk : zc_kd a = 145) (hv : zq_in v) : zc_T τ := zc_up e h hk hv
theorem zc_ga146 {σ : zq_S} {a : Int} (h : zc_T σ) (hk : zc_kd a = 146) (i : Int) : zq_in (σ a i) := zc_at h hk i
theorem zc_ua146 {σ τ : zq_S} {a i v : Int} (e : τ = zq_up σ a i v) (h : zc_T σ) (hk : zc_kd a = 146) (hv : zq_in v) : zc_T τ := zc_up e h hk hv
theorem zc_ga148 {σ : zq_S} {a : Int} (h : zc_T σ) (hk : zc_kd a = 148) (i : Int) : zq_in (σ a i) := zc_at h hk i
theorem zc_ua148 {σ τ : zq_S} {a i v : Int} (e : τ = zq_up σ a i v) (h : zc_T σ) (hk : zc_kd a = 148) (hv : zq_in v) : zc_T τ := zc_up e h hk hv
theorem zc_ga149 {σ : zq_S} {a : Int} (h : zc_T σ) (hk : zc_kd a = 149) (i : Int) : zq_in (σ a i) := zc_at h hk i
theorem zc_ua149 {σ τ : zq_S} {a i v : Int} (e : τ = zq_up σ a i v) (h : zc_T σ) (hk : zc_kd a = 149) (hv : zq_in v) : zc_T τ := zc_up e h hk hv
theorem zc_ga150 {σ : zq_S} {a : Int} (h : zc_T σ) (hk : zc_kd a = 150) (i : Int) : zq_in (σ a i) := zc_at h hk i
theorem zc_ua150 {σ τ : zq_S} {a i v : Int} (e : τ = zq_up σ a i v) (h : zc_T σ) (hk : zc_kd a = 150) (hv : zq_in v) : zc_T τ := zc_up e h hk hv
theorem zc_ua151 {σ τ : zq_S} {a i v : Int} (e : τ = zq_up σ a i v) (h : zc_T σ) (hk : zc_kd a = 151) (hv : zq_in v) : zc_T τ := zc_up e h hk hv
theorem zc_ua152 {σ τ : zq_S} {a i v : Int} (e : τ = zq_up σ a i v) (h : zc_T σ) (hk : zc_kd a = 152) (hv : zq_in v) : zc_T τ := zc_up e h hk hv
theorem zc_ga153 {σ : zq_S} {a : Int} (h : zc_T σ) (hk : zc_kd a = 153) (i : Int) : 0 ≤ i → i < 100 → (σ a i) = 154 + i := zc_at h hk i
theorem zc_ga154 {σ : zq_S} {a : Int} (h : zc_T σ) (hk : zc_kd a = 154) (i : Int) : (i = 6 → 0 ≤ (σ a i) ∧ (σ a i) ≤ 3) ∧ zq_in (σ a i) := zc_at h hk i
theorem zc_ua154 {σ τ : zq_S} {a i v : Int} (e : τ = zq_up σ a i v) (h : zc_T σ) (hk : zc_kd a = 154) (hv : (i = 6 → 0 ≤ v ∧ v ≤ 3) ∧ zq_in v) : zc_T τ := zc_up e h hk hv
theorem zc_ga254 {σ : zq_S} {a : Int} (h : zc_T σ) (hk : zc_kd a = 254) (i : Int) : zq_in (σ a i) := zc_at h hk i
theorem zc_ua254 {σ τ : zq_S} {a i v : Int} (e : τ = zq_up σ a i v) (h : zc_T σ) (hk : zc_kd a = 254) (hv : zq_in v) : zc_T τ := zc_up e h hk hv
theorem zc_ga257 {σ : zq_S} {a : Int} (h : zc_T σ) (hk : zc_kd a = 257) (i : Int) : zq_in (σ a i) := zc_at h hk i
theorem zc_ua257 {σ τ : zq_S} {a i v : Int} (e : τ = zq_up σ a i v) (h : zc_T σ) (hk : zc_kd a = 257) (hv : zq_in v) : zc_T τ := zc_up e h hk hv
theorem zc_ga258 {σ : zq_S} {a : Int} (h : zc_T σ) (hk : zc_kd a = 258) (i : Int) : zq_in (σ a i) := zc_at h hk i
theorem zc_ua258 {σ τ : zq_S} {a i v : Int} (e : τ = zq_up σ a i v) (h : zc_T σ) (hk : zc_kd a = 258) (hv : zq_in v) : zc_T τ := zc_up e h hk hv
theorem zc_ga259 {σ : zq_S} {a : Int} (h : zc_T σ) (hk : zc_kd a = 259) (i : Int) : 0 ≤ (σ a i) ∧ (σ a i) ≤ 38 := zc_at h hk i
theorem zc_ua259 {σ τ : zq_S} {a i v : Int} (e : τ = zq_up σ a i v) (h : zc_T σ) (hk : zc_kd a = 259) (hv : 0 ≤ v ∧ v ≤ 38) : zc_T τ := zc_up e h hk hv
theorem zc_ga260 {σ : zq_S} {a : Int} (h : zc_T σ) (hk : zc_kd a = 260) (i : Int) : 0 ≤ (σ a i) ∧ (σ a i) ≤ 38 := zc_at h hk i
theorem zc_ua260 {σ τ : zq_S} {a i v : Int} (e : τ = zq_up σ a i v) (h : zc_T σ) (hk : zc_kd a = 260) (hv : 0 ≤ v ∧ v ≤ 38) : zc_T τ := zc_up e h hk hv
theorem zc_ga261 {σ : zq_S} {a : Int} (h : zc_T σ) (hk : zc_kd a = 261) (i : Int) : zq_in (σ a i) := zc_at h hk i
theorem zc_ua261 {σ τ : zq_S} {a i v : Int} (e : τ = zq_up σ a i v) (h : zc_T σ) (hk : zc_kd a = 261) (hv : zq_in v) : zc_T τ := zc_up e h hk hv
theorem zc_ga262 {σ : zq_S} {a : Int} (h : zc_T σ) (hk : zc_kd a = 262) (i : Int) : 0 ≤ (σ a i) ∧ (σ a i) ≤ 38 := zc_at h hk i
theorem zc_ua262 {σ τ : zq_S} {a i v : Int} (e : τ = zq_up σ a i v) (h : zc_T σ) (hk : zc_kd a = 262) (hv : 0 ≤ v ∧ v ≤ 38) : zc_T τ := zc_up e h hk hv
theorem zc_ga263 {σ : zq_S} {a : Int} (h : zc_T σ) (hk : zc_kd a = 263) (i : Int) : zq_in (σ a i) := zc_at h hk i
theorem zc_ua263 {σ τ : zq_S} {a i v : Int} (e : τ = zq_up σ a i v) (h : zc_T σ) (hk : zc_kd a = 263) (hv : zq_in v) : zc_T τ := zc_up e h hk hv
theorem zc_ga272 {σ : zq_S} {a : Int} (h : zc_T σ) (hk : zc_kd a = 272) (i : Int) : zq_in (σ a i) := zc_at h hk i
theorem zc_ua272 {σ τ : zq_S} {a i v : Int} (e : τ = zq_up σ a i v) (h : zc_T σ) (hk : zc_kd a = 272) (hv : zq_in v) : zc_T τ := zc_up e h hk hv
theorem zc_ga273 {σ : zq_S} {a : Int} (h : zc_T σ) (hk : zc_kd a = 273) (i : Int) : zq_in (σ a i) := zc_at h hk i
theorem zc_ua273 {σ τ : zq_S} {a i v : Int} (e : τ = zq_up σ a i v) (h : zc_T σ) (hk : zc_kd a = 273) (hv : zq_in v) : zc_T τ := zc_up e h hk hv
theorem zc_ga274 {σ : zq_S} {a : Int} (h : zc_T σ) (hk : zc_kd a = 274) (i : Int) : zq_in (σ a i) := zc_at h hk i
theorem zc_ua274 {σ τ : zq_S} {a i v : Int} (e : τ = zq_up σ a i v) (h : zc_T σ) (hk : zc_kd a = 274) (hv : zq_in v) : zc_T τ := zc_up e h hk hv
theorem zc_ga275 {σ : zq_S} {a : Int} (h : zc_T σ) (hk : zc_kd a = 275) (i : Int) : zq_in (σ a i) := zc_at h hk i
theorem zc_ua275 {σ τ : zq_S} {a i v : Int} (e : τ = zq_up σ a i v) (h : zc_T σ) (hk : zc_kd a = 275) (hv : zq_in v) : zc_T τ := zc_up e h hk hv
theorem zc_ga277 {σ : zq_S} {a : Int} (h : zc_T σ) (hk : zc_kd a = 277) (i : Int) : -1 ≤ (σ a i) ∧ (σ a i) ≤ 2 := zc_at h hk i
theorem zc_ua277 {σ τ : zq_S} {a i v : Int} (e : τ = zq_up σ a i v) (h : zc_T σ) (hk : zc_kd a = 277) (hv : -1 ≤ v ∧ v ≤ 2) : zc_T τ := zc_up e h hk hv
theorem zc_ga278 {σ : zq_S} {a : Int} (h : zc_T σ) (hk : zc_kd a = 278) (i : Int) : 0 ≤ (σ a i) ∧ (σ a i) ≤ 30 := zc_at h hk i
theorem zc_ua278 {σ τ : zq_S} {a i v : Int} (e : τ = zq_up σ a i v) (h : zc_T σ) (hk : zc_kd a = 278) (hv : 0 ≤ v ∧ v ≤ 30) : zc_T τ := zc_up e h hk hv
theorem zc_ga279 {σ : zq_S} {a : Int} (h : zc_T σ) (hk : zc_kd a = 279) (i : Int) : 0 ≤ i → i < 4 → (σ a i) = 280 + i := zc_at h hk i
theorem zc_ga280 {σ : zq_S} {a : Int} (h : zc_T σ) (hk : zc_kd a = 280) (i : Int) : zq_in (σ a i) := zc_at h hk i
theorem zc_ua280 {σ τ : zq_S} {a i v : Int} (e : τ = zq_up σ a i v) (h : zc_T σ) (hk : zc_kd a = 280) (hv : zq_in v) : zc_T τ := zc_up e h hk hv
/-! frames: kinds and slots (-1: all) that may change -/
def zc_out (L : List (Nat × Int)) (a i : Int) : Prop := L.any (fun q => q.1 == zc_kd a && (q.2 == -1 || q.2 == i)) = false
theorem zc_out_sub {L M : List (Nat × Int)} (h : L.all (fun q => M.any (fun r => r.1 == q.1 && (r.2 == -1 || r.2 == q.2))) = true) {a i : Int} (ho : zc_out M a i) : zc_out L a i := by
  unfold zc_out at ho ⊢
  rw [List.any_eq_false] at ho ⊢
  intro q hq hc
  have h1 := List.all_eq_true.mp h q hq
  obtain ⟨r, hr, h2⟩ := List.any_eq_true.mp h1
  refine ho r hr ?_
  simp only [Bool.and_eq_true, Bool.or_eq_true, beq_iff_eq] at hc h2 ⊢
  refine ⟨h2.1.trans hc.1, ?_⟩
  rcases h2.2 with h3 | h3
  · exact Or.inl h3
  · rcases hc.2 with h4 | h4
    · exact Or.inl (h3.trans h4)
    · exact Or.inr (h3.trans h4)
theorem zc_out_at {L : List (Nat × Int)} {a i : Int} {k : Nat} (hk : zc_kd a = k) (h : L.any (fun q => q.1 == k && (q.2 == -1 || q.2 == i)) = false) : zc_out L a i := by
  unfold zc_out
  rw [hk]
  exact h
theorem zc_out_ar {L : List (Nat × Int)} {a i : Int} {k : Nat} (hk : zc_kd a = k) (h : L.any (fun q => q.1 == k) = false) : zc_out L a i := by
  unfold zc_out
  rw [hk]
  rw [List.any_eq_false] at h ⊢
  intro q hq hc
  simp only [Bool.and_eq_true] at hc
  exact h q hq hc.1
theorem zc_out_wr {L : List (Nat × Int)} {a i x y : Int} {k : Nat} (hk : zc_kd a = k) (h : L.any (fun r => r.1 == k && (r.2 == -1 || r.2 == i)) = true) (ho : zc_out L x y) : ¬ (x = a ∧ y = i) := by
  rintro ⟨rfl, rfl⟩
  unfold zc_out at ho
  rw [hk, h] at ho
  cases ho
theorem zc_out_wa {L : List (Nat × Int)} {a i x y : Int} {k : Nat} (hk : zc_kd a = k) (h : L.any (fun r => r.1 == k && r.2 == -1) = true) (ho : zc_out L x y) : ¬ (x = a ∧ y = i) := by
  refine zc_out_wr hk ?_ ho
  obtain ⟨r, hr, h2⟩ := List.any_eq_true.mp h
  simp only [Bool.and_eq_true] at h2
  exact List.any_eq_true.mpr ⟨r, hr, by simp [h2.1, h2.2]⟩
def zc_Fr (L : List (Nat × Int)) (σ τ : zq_S) : Prop := ∀ a i, zc_out L a i → τ a i = σ a i
theorem zc_Fr_rf (L : List (Nat × Int)) (σ : zq_S) : zc_Fr L σ σ := fun _ _ _ => rfl
theorem zc_Fw {L : List (Nat × Int)} {σ ρ τ : zq_S} {a i v : Int} {k : Nat} (e : τ = zq_up ρ a i v) (hk : zc_kd a = k) (h : L.any (fun r => r.1 == k && (r.2 == -1 || r.2 == i)) = true) (hF : zc_Fr L σ ρ) : zc_Fr L σ τ := fun x y ho => by
  rw [e, zq_up_ne (zc_out_wr hk h ho)]
  exact hF x y ho
theorem zc_Fa {L : List (Nat × Int)} {σ ρ τ : zq_S} {a i v : Int} {k : Nat} (e : τ = zq_up ρ a i v) (hk : zc_kd a = k) (h : L.any (fun r => r.1 == k && r.2 == -1) = true) (hF : zc_Fr L σ ρ) : zc_Fr L σ τ := fun x y ho => by
  rw [e, zq_up_ne (zc_out_wa hk h ho)]
  exact hF x y ho
theorem zc_Fc {L M : List (Nat × Int)} {σ ρ τ : zq_S} (hf : zc_Fr M ρ τ) (h : M.all (fun q => L.any (fun r => r.1 == q.1 && (r.2 == -1 || r.2 == q.2))) = true) (hF : zc_Fr L σ ρ) : zc_Fr L σ τ := fun x y ho => (hf x y (zc_out_sub h ho)).trans (hF x y ho)

