/-! ===== what a new object holds; links of the constructors ===== -/
def zc_I0 (a i : Int) : Int := if i = 0 then 1 else if i = 1 then 3 else if i = 2 then 132 else if i = 3 then 134 else if i = 4 then 139 else if i = 5 then 140 else if i = 6 then 255 else if i = 7 then 276 else zq_df 11 i
def zc_I1 (a i : Int) : Int := if i = 0 then 2 else zq_df 8 i
def zc_I2 (a i : Int) : Int := 0
def zc_I3 (a i : Int) : Int := if i = 5 then 4 else if i = 6 then 10 else if i = 7 then 11 else zq_df 9 i
def zc_I4 (a i : Int) : Int := if i = 3 then a + 1 else if i = 7 then a + 2 else if i = 8 then a + 3 else if i = 9 then a + 4 else if i = 10 then a + 5 else zq_df 3 i
def zc_I5 (a i : Int) : Int := 0
def zc_I6 (a i : Int) : Int := 0
def zc_I7 (a i : Int) : Int := 0
def zc_I8 (a i : Int) : Int := 0
def zc_I9 (a i : Int) : Int := 0
def zc_I10 (a i : Int) : Int := if 0 ≤ i ∧ i < 20 then 12 + 6 * i else -1
def zc_I11 (a i : Int) : Int := 0
def zc_I132 (a i : Int) : Int := if i = 0 then 1 else if i = 1 then 3 else if i = 2 then 133 else zq_df 4 i
def zc_I133 (a i : Int) : Int := 0
def zc_I134 (a i : Int) : Int := if i = 0 then 3 else if i = 1 then 135 else if i = 2 then 136 else if i = 3 then 137 else if i = 4 then 138 else zq_df 2 i
def zc_I135 (a i : Int) : Int := 0
def zc_I136 (a i : Int) : Int := 0
def zc_I137 (a i : Int) : Int := 0
def zc_I138 (a i : Int) : Int := 0
def zc_I139 (a i : Int) : Int := 0
def zc_I140 (a i : Int) : Int := if i = 0 then 3 else if i = 1 then 139 else if i = 2 then 141 else if i = 3 then 147 else if i = 4 then 153 else if i = 7 then 254 else zq_df 6 i
def zc_I141 (a i : Int) : Int := if i = 1 then 142 else if i = 2 then 143 else if i = 5 then 144 else if i = 7 then 145 else if i = 8 then 146 else zq_df 10 i
def zc_I142 (a i : Int) : Int := 0
def zc_I143 (a i : Int) : Int := 0
def zc_I144 (a i : Int) : Int := 0
def zc_I145 (a i : Int) : Int := 0
def zc_I146 (a i : Int) : Int := 0
def zc_I147 (a i : Int) : Int := if i = 1 then 148 else if i = 2 then 149 else if i = 5 then 150 else if i = 7 then 151 else if i = 8 then 152 else zq_df 10 i
def zc_I148 (a i : Int) : Int := 0
def zc_I149 (a i : Int) : Int := 0
def zc_I150 (a i : Int) : Int := 0
def zc_I151 (a i : Int) : Int := 0
def zc_I152 (a i : Int) : Int := 0
def zc_I153 (a i : Int) : Int := if 0 ≤ i ∧ i < 100 then 154 + i else -1
def zc_I154 (a i : Int) : Int := 0
def zc_I254 (a i : Int) : Int := 0
def zc_I255 (a i : Int) : Int := if i = 0 then 3 else if i = 1 then 256 else if i = 2 then 264 else if i = 5 then 272 else if i = 6 then 273 else if i = 7 then 274 else if i = 8 then 275 else zq_df 1 i
def zc_I256 (a i : Int) : Int := if i = 0 then a + 1 else if i = 1 then a + 2 else if i = 2 then a + 3 else if i = 3 then a + 4 else if i = 4 then a + 5 else if i = 7 then a + 6 else if i = 8 then a + 7 else zq_df 7 i
def zc_I257 (a i : Int) : Int := 0
def zc_I258 (a i : Int) : Int := 0
def zc_I259 (a i : Int) : Int := 0
def zc_I260 (a i : Int) : Int := 0
def zc_I261 (a i : Int) : Int := 0
def zc_I262 (a i : Int) : Int := 0
def zc_I263 (a i : Int) : Int := 0
def zc_I272 (a i : Int) : Int := 0
def zc_I273 (a i : Int) : Int := 0
def zc_I274 (a i : Int) : Int := 0
def zc_I275 (a i : Int) : Int := 0
def zc_I276 (a i : Int) : Int := if i = 0 then 277 else if i = 1 then 278 else if i = 2 then 279 else zq_df 5 i
def zc_I277 (a i : Int) : Int := if 0 ≤ i ∧ i < 4 then -1 else 0
def zc_I278 (a i : Int) : Int := 0
def zc_I279 (a i : Int) : Int := if 0 ≤ i ∧ i < 4 then 280 + i else -1
def zc_I280 (a i : Int) : Int := 0
def zc_Ik (k : Nat) (a i : Int) : Int :=
  if k = 0 then zc_I0 a i else
  if k = 1 then zc_I1 a i else
  if k = 2 then zc_I2 a i else
  if k = 3 then zc_I3 a i else
  if k = 4 then zc_I4 a i else
  if k = 5 then zc_I5 a i else
  if k = 6 then zc_I6 a i else
  if k = 7 then zc_I7 a i else
  if k = 8 then zc_I8 a i else
  if k = 9 then zc_I9 a i else
  if k = 10 then zc_I10 a i else
  if k = 11 then zc_I11 a i else
  if k = 132 then zc_I132 a i else
  if k = 133 then zc_I133 a i else
  if k = 134 then zc_I134 a i else
  if k = 135 then zc_I135 a i else
  if k = 136 then zc_I136 a i else
  if k = 137 then zc_I137 a i else
  if k = 138 then zc_I138 a i else
  if k = 139 then zc_I139 a i else
  if k = 140 then zc_I140 a i else
  if k = 141 then zc_I141 a i else
  if k = 142 then zc_I142 a i else
  if k = 143 then zc_I143 a i else
  if k = 144 then zc_I144 a i else
  if k = 145 then zc_I145 a i else
  if k = 146 then zc_I146 a i else
  if k = 147 then zc_I147 a i else
  if k = 148 then zc_I148 a i else
  if k = 149 then zc_I149 a i else
  if k = 150 then zc_I150 a i else
  if k = 151 then zc_I151 a i else
  if k = 152 then zc_I152 a i else
  if k = 153 then zc_I153 a i else
  if k = 154 then zc_I154 a i else
  if k = 254 then zc_I254 a i else
  if k = 255 then zc_I255 a i else
  if k = 256 then zc_I256 a i else
  if k = 257 then zc_I257 a i else
  if k = 258 then zc_I258 a i else
  if k = 259 then zc_I259 a i else
  if k = 260 then zc_I260 a i else
  if k = 261 then zc_I261 a i else
  if k = 262 then zc_I262 a i else
  if k = 263 then zc_I263 a i else
  if k = 272 then zc_I272 a i else
  if k = 273 then zc_I273 a i else
  if k = 274 then zc_I274 a i else
  if k = 275 then zc_I275 a i else
  if k = 276 then zc_I276 a i else
  if k = 277 then zc_I277 a i else
  if k = 278 then zc_I278 a i else
  if k = 279 then zc_I279 a i else
  if k = 280 then zc_I280 a i else
  0
def zc_I (a i : Int) : Int := zc_Ik (zc_kd a) a i
theorem zc_Ie0 {a : Int} (h : zc_kd a = 0) (i : Int) : zc_I a i = zc_I0 a i := by unfold zc_I; rw [h]; rfl
theorem zc_Ie1 {a : Int} (h : zc_kd a = 1) (i : Int) : zc_I a i = zc_I1 a i := by unfold zc_I; rw [h]; rfl
theorem zc_Ie2 {a : Int} (h : zc_kd a = 2) (i : Int) : zc_I a i = zc_I2 a i := by unfold zc_I; rw [h]; rfl
theorem zc_Ie3 {a : Int} (h : zc_kd a = 3) (i : Int) : zc_I a i = zc_I3 a i := by unfold zc_I; rw [h]; rfl
theorem zc_Ie4 {a : Int} (h : zc_kd a = 4) (i : Int) : zc_I a i = zc_I4 a i := by unfold zc_I; rw [h]; rfl
theorem zc_Ie5 {a : Int} (h : zc_kd a = 5) (i : Int) : zc_I a i = zc_I5 a i := by unfold zc_I; rw [h]; rfl
theorem zc_Ie6 {a : Int} (h : zc_kd a = 6) (i : Int) : zc_I a i = zc_I6 a i := by unfold zc_I; rw [h]; rfl
theorem zc_Ie7 {a : Int} (h : zc_kd a = 7) (i : Int) : zc_I a i = zc_I7 a i := by unfold zc_I; rw [h]; rfl
theorem zc_Ie8 {a : Int} (h : zc_kd a = 8) (i : Int) : zc_I a i = zc_I8 a i := by unfold zc_I; rw [h]; rfl
theorem zc_Ie9 {a : Int} (h : zc_kd a = 9) (i : Int) : zc_I a i = zc_I9 a i := by unfold zc_I; rw [h]; rfl
theorem zc_Ie10 {a : Int} (h : zc_kd a = 10) (i : Int) : zc_I a i = zc_I10 a i := by unfold zc_I; rw [h]; rfl
theorem zc_Ie11 {a : Int} (h : zc_kd a = 11) (i : Int) : zc_I a i = zc_I11 a i := by unfold zc_I; rw [h]; rfl
theorem zc_Ie132 {a : Int} (h : zc_kd a = 132) (i : Int) : zc_I a i = zc_I132 a i := by unfold zc_I; rw [h]; rfl
theorem zc_Ie133 {a : Int} (h : zc_kd a = 133) (i : Int) : zc_I a i = zc_I133 a i := by unfold zc_I; rw [h]; rfl
theorem zc_Ie134 {a : Int} (h : zc_kd a = 134) (i : Int) : zc_I a i = zc_I134 a i := by unfold zc_I; rw [h]; rfl
theorem zc_Ie135 {a : Int} (h : zc_kd a = 135) (i : Int) : zc_I a i = zc_I135 a i := by unfold zc_I; rw [h]; rfl
theorem zc_Ie136 {a : Int} (h : zc_kd a = 136) (i : Int) : zc_I a i = zc_I136 a i := by unfold zc_I; rw [h]; rfl
theorem zc_Ie137 {a : Int} (h : zc_kd a = 137) (i : Int) : zc_I a i = zc_I137 a i := by unfold zc_I; rw [h]; rfl
theorem zc_Ie138 {a : Int} (h : zc_kd a = 138) (i : Int) : zc_I a i = zc_I138 a i := by unfold zc_I; rw [h]; rfl
theorem zc_Ie139 {a : Int} (h : zc_kd a = 139) (i : Int) : zc_I a i = zc_I139 a i := by unfold zc_I; rw [h]; rfl
theorem zc_Ie140 {a : Int} (h : zc_kd a = 140) (i : Int) : zc_I a i = zc_I140 a i := by unfold zc_I; rw [h]; rfl
theorem zc_Ie141 {a : Int} (h : zc_kd a = 141) (i : Int) : zc_I a i = zc_I141 a i := by unfold zc_I; rw [h]; rfl
theorem zc_Ie142 {a : Int} (h : zc_kd a = 142) (i : Int) : zc_I a i = zc_I142 a i := by unfold zc_I; rw [h]; rfl
theorem zc_Ie143 {a : Int} (h : zc_kd a = 143) (i : Int) : zc_I a i = zc_I143 a i := by unfold zc_I; rw [h]; rfl
theorem zc_Ie144 {a : Int} (h : zc_kd a = 144) (i : Int) : zc_I a i = zc_I144 a i := by unfold zc_I; rw [h]; rfl
theorem zc_Ie145 {a : Int} (h : zc_kd a = 145) (i : Int) : zc_I a i = zc_I145 a i := by unfold zc_I; rw [h]; rfl
theorem zc_Ie146 {a : Int} (h : zc_kd a = 146) (i : Int) : zc_I a i = zc_I146 a i := by unfold zc_I; rw [h]; rfl
theorem zc_Ie147 {a : Int} (h : zc_kd a = 147) (i : Int) : zc_I a i = zc_I147 a i := by unfold zc_I; rw [h]; rfl
theorem zc_Ie148 {a : Int} (h : zc_kd a = 148) (i : Int) : zc_I a i = zc_I148 a i := by unfold zc_I; rw [h]; rfl
theorem zc_Ie149 {a : Int} (h : zc_kd a = 149) (i : Int) : zc_I a i = zc_I149 a i := by unfold zc_I; rw [h]; rfl
theorem zc_Ie150 {a : Int} (h : zc_kd a = 150) (i : Int) : zc_I a i = zc_I150 a i := by unfold zc_I; rw [h]; rfl
theorem zc_Ie151 {a : Int} (h : zc_kd a = 151) (i : Int) : zc_I a i = zc_I151 a i := by unfold zc_I; rw [h]; rfl
theorem zc_Ie152 {a : Int} (h : zc_kd a = 152) (i : Int) : zc_I a i = zc_I152 a i := by unfold zc_I; rw [h]; rfl
theorem zc_Ie153 {a : Int} (h : zc_kd a = 153) (i : Int) : zc_I a i = zc_I153 a i := by unfold zc_I; rw [h]; rfl
theorem zc_Ie154 {a : Int} (h : zc_kd a = 154) (i : Int) : zc_I a i = zc_I154 a i := by unfold zc_I; rw [h]; rfl
theorem zc_Ie254 {a : Int} (h : zc_kd a = 254) (i : Int) : zc_I a i = zc_I254 a i := by unfold zc_I; rw [h]; rfl
theorem zc_Ie255 {a : Int} (h : zc_kd a = 255) (i : Int) : zc_I a i = zc_I255 a i := by unfold zc_I; rw [h]; rfl
theorem zc_Ie256 {a : Int} (h : zc_kd a = 256) (i : Int) : zc_I a i = zc_I256 a i := by unfold zc_I; rw [h]; rfl
theorem zc_Ie257 {a : Int} (h : zc_kd a = 257) (i : Int) : zc_I a i = zc_I257 a i := by unfold zc_I; rw [h]; rfl
theorem zc_Ie258 {a : Int} (h : zc_kd a = 258) (i : Int) : zc_I a i = zc_I258 a i := by unfold zc_I; rw [h]; rfl
theorem zc_Ie259 {a : Int} (h : zc_kd a = 259) (i : Int) : zc_I a i = zc_I259 a i := by unfold zc_I; rw [h]; rfl
theorem zc_Ie260 {a : Int} (h : zc_kd a = 260) (i : Int) : zc_I a i = zc_I260 a i := by unfold zc_I; rw [h]; rfl
theorem zc_Ie261 {a : Int} (h : zc_kd a = 261) (i : Int) : zc_I a i = zc_I261 a i := by unfold zc_I; rw [h]; rfl
theorem zc_Ie262 {a : Int} (h : zc_kd a = 262) (i : Int) : zc_I a i = zc_I262 a i := by unfold zc_I; rw [h]; rfl
theorem zc_Ie263 {a : Int} (h : zc_kd a = 263) (i : Int) : zc_I a i = zc_I263 a i := by unfold zc_I; rw [h]; rfl
theorem zc_Ie272 {a : Int} (h : zc_kd a = 272) (i : Int) : zc_I a i = zc_I272 a i := by unfold zc_I; rw [h]; rfl
theorem zc_Ie273 {a : Int} (h : zc_kd a = 273) (i : Int) : zc_I a i = zc_I273 a i := by unfold zc_I; rw [h]; rfl
theorem zc_Ie274 {a : Int} (h : zc_kd a = 274) (i : Int) : zc_I a i = zc_I274 a i := by unfold zc_I; rw [h]; rfl
theorem zc_Ie275 {a : Int} (h : zc_kd a = 275) (i : Int) : zc_I a i = zc_I275 a i := by unfold zc_I; rw [h]; rfl
theorem zc_Ie276 {a : Int} (h : zc_kd a = 276) (i : Int) : zc_I a i = zc_I276 a i := by unfold zc_I; rw [h]; rfl
theorem zc_Ie277 {a : Int} (h : zc_kd a = 277) (i : Int) : zc_I a i = zc_I277 a i := by unfold zc_I; rw [h]; rfl
theorem zc_Ie278 {a : Int} (h : zc_kd a = 278) (i : Int) : zc_I a i = zc_I278 a i := by unfold zc_I; rw [h]; rfl
theorem zc_Ie279 {a : Int} (h : zc_kd a = 279) (i : Int) : zc_I a i = zc_I279 a i := by unfold zc_I; rw [h]; rfl
theorem zc_Ie280 {a : Int} (h : zc_kd a = 280) (i : Int) : zc_I a i = zc_I280 a i := by unfold zc_I; rw [h]; rfl
theorem zq_cell_at (σ : zq_S) (a : Int) (f : Int → Int) (i : Int) : zq_cell σ a f a i = f i := by simp [zq_cell]
theorem zq_cell_no {σ : zq_S} {a x : Int} {f : Int → Int} {i : Int} (h : x ≠ a) : zq_cell σ a f x i = σ x i := by simp [zq_cell, h]
theorem lo11 : Cond.methodLink RX11 1 objectInit ∈ zq_tb := (zq_tbI (zq_tk1 (List.mem_of_getElem? (i := 23) rfl)) rfl)
theorem lo8 : Cond.methodLink RX8 3 objectInit ∈ zq_tb := (zq_tbI (zq_tk1 (List.mem_of_getElem? (i := 31) rfl)) rfl)
theorem iX11_18 : zq_MI RX11 18 yX9_init cX9_init 2 0 := ⟨(zq_tbI (zq_tk1 (List.mem_of_getElem? (i := 50) rfl)) rfl), (zq_tbI (zq_tk1 (List.mem_of_getElem? (i := 3) rfl)) rfl), (zq_tbI (zq_tk1 (List.mem_of_getElem? (i := 48) rfl)) rfl), (zq_tbI (zq_tk1 (List.mem_of_getElem? (i := 49) rfl)) rfl), rfl, ⟨by decide, by decide, by decide +kernel⟩⟩
theorem lo9 : Cond.methodLink RX9 3 objectInit ∈ zq_tb := (zq_tbI (zq_tk1 (List.mem_of_getElem? (i := 51) rfl)) rfl)
theorem lo3 : Cond.methodLink RX3 3 objectInit ∈ zq_tb := (zq_tbI (zq_tk1 (List.mem_of_getElem? (i := 57) rfl)) rfl)
theorem iX11_25 : zq_MI RX11 25 yX4_init cX4_init 3 2 := ⟨(zq_tbI (zq_tk1 (List.mem_of_getElem? (i := 172) rfl)) rfl), (zq_tbI (zq_tk1 (List.mem_of_getElem? (i := 5) rfl)) rfl), (zq_tbI (zq_tk1 (List.mem_of_getElem? (i := 170) rfl)) rfl), (zq_tbI (zq_tk1 (List.mem_of_getElem? (i := 171) rfl)) rfl), rfl, ⟨by decide, by decide, by decide +kernel⟩⟩
theorem lo4 : Cond.methodLink RX4 3 objectInit ∈ zq_tb := (zq_tbI (zq_tk1 (List.mem_of_getElem? (i := 173) rfl)) rfl)
theorem iX11_34 : zq_MI RX11 34 yX2_init cX2_init 1 0 := ⟨(zq_tbI (zq_tk1 (List.mem_of_getElem? (i := 192) rfl)) rfl), (zq_tbI (zq_tk1 (List.mem_of_getElem? (i := 7) rfl)) rfl), (zq_tbI (zq_tk1 (List.mem_of_getElem? (i := 190) rfl)) rfl), (zq_tbI (zq_tk1 (List.mem_of_getElem? (i := 191) rfl)) rfl), rfl, ⟨by decide, by decide, by decide +kernel⟩⟩
theorem lo0 : Cond.methodLink RX0 1 objectInit ∈ zq_tb := (zq_tbI (zq_tk1 (List.mem_of_getElem? (i := 196) rfl)) rfl)
theorem iX11_45 : zq_MI RX11 45 yX6_init cX6_init 3 2 := ⟨(zq_tbI (zq_tk1 (List.mem_of_getElem? (i := 225) rfl)) rfl), (zq_tbI (zq_tk1 (List.mem_of_getElem? (i := 8) rfl)) rfl), (zq_tbI (zq_tk1 (List.mem_of_getElem? (i := 223) rfl)) rfl), (zq_tbI (zq_tk1 (List.mem_of_getElem? (i := 224) rfl)) rfl), rfl, ⟨by decide, by decide, by decide +kernel⟩⟩
theorem lo6 : Cond.methodLink RX6 7 objectInit ∈ zq_tb := (zq_tbI (zq_tk1 (List.mem_of_getElem? (i := 226) rfl)) rfl)
theorem iX11_54 : zq_MI RX11 54 yX1_init cX1_init 2 1 := ⟨(zq_tbI (zq_tk2 (List.mem_of_getElem? (i := 84) rfl)) rfl), (zq_tbI (zq_tk1 (List.mem_of_getElem? (i := 10) rfl)) rfl), (zq_tbI (zq_tk2 (List.mem_of_getElem? (i := 82) rfl)) rfl), (zq_tbI (zq_tk2 (List.mem_of_getElem? (i := 83) rfl)) rfl), rfl, ⟨by decide, by decide, by decide +kernel⟩⟩
theorem lo1 : Cond.methodLink RX1 3 objectInit ∈ zq_tb := (zq_tbI (zq_tk2 (List.mem_of_getElem? (i := 85) rfl)) rfl)
theorem lo7 : Cond.methodLink RX7 3 objectInit ∈ zq_tb := (zq_tbI (zq_tk2 (List.mem_of_getElem? (i := 91) rfl)) rfl)
theorem iX11_63 : zq_MI RX11 63 yX5_init cX5_init 1 0 := ⟨(zq_tbI (zq_tk2 (List.mem_of_getElem? (i := 167) rfl)) rfl), (zq_tbI (zq_tk1 (List.mem_of_getElem? (i := 12) rfl)) rfl), (zq_tbI (zq_tk2 (List.mem_of_getElem? (i := 165) rfl)) rfl), (zq_tbI (zq_tk2 (List.mem_of_getElem? (i := 166) rfl)) rfl), rfl, ⟨by decide, by decide, by decide +kernel⟩⟩
theorem lo5 : Cond.methodLink RX5 3 objectInit ∈ zq_tb := (zq_tbI (zq_tk2 (List.mem_of_getElem? (i := 168) rfl)) rfl)
theorem lo12 : Cond.methodLink RX12 1 objectInit ∈ zq_tb := (zq_tbI (zq_tk6 (List.mem_of_getElem? (i := 80) rfl)) rfl)
theorem lo_i : Cond.instanceMethod objectInit ∈ zq_tb := (zq_tbI (zq_tk1 (List.mem_of_getElem? (i := 24) rfl)) rfl)
theorem lo_c : Cond.code objectInit ⟨#[0xb1]⟩ 1 none ∈ zq_tb := (zq_tbI (zq_tk1 (List.mem_of_getElem? (i := 25) rfl)) rfl)
theorem iX11_9 : zq_MN RX11 9 yX8_init cX8_init 1 0 := ⟨(zq_tbI (zq_tk1 (List.mem_of_getElem? (i := 30) rfl)) rfl), (zq_tbI (zq_tk1 (List.mem_of_getElem? (i := 2) rfl)) rfl), by decide +kernel, (zq_tbI (zq_tk1 (List.mem_of_getElem? (i := 29) rfl)) rfl), rfl, ⟨by decide, by decide, by decide +kernel⟩⟩
theorem iX9_11 : zq_MN RX9 11 yX3_init cX3_init 1 0 := ⟨(zq_tbI (zq_tk1 (List.mem_of_getElem? (i := 56) rfl)) rfl), (zq_tbI (zq_tk1 (List.mem_of_getElem? (i := 4) rfl)) rfl), by decide +kernel, (zq_tbI (zq_tk1 (List.mem_of_getElem? (i := 55) rfl)) rfl), rfl, ⟨by decide, by decide, by decide +kernel⟩⟩
theorem iX2_3 : zq_MN RX2 3 yX0_init cX0_init 1 0 := ⟨(zq_tbI (zq_tk1 (List.mem_of_getElem? (i := 195) rfl)) rfl), (zq_tbI (zq_tk1 (List.mem_of_getElem? (i := 6) rfl)) rfl), by decide +kernel, (zq_tbI (zq_tk1 (List.mem_of_getElem? (i := 194) rfl)) rfl), rfl, ⟨by decide, by decide, by decide +kernel⟩⟩
theorem iX6_15 : zq_MN RX6 15 yX10_init cX10_init 1 0 := ⟨(zq_tbI (zq_tk1 (List.mem_of_getElem? (i := 231) rfl)) rfl), (zq_tbI (zq_tk1 (List.mem_of_getElem? (i := 9) rfl)) rfl), by decide +kernel, (zq_tbI (zq_tk1 (List.mem_of_getElem? (i := 230) rfl)) rfl), rfl, ⟨by decide, by decide, by decide +kernel⟩⟩
theorem iX10_5 : zq_MN RX10 5 yX0_init cX0_init 1 0 := ⟨(zq_tbI (zq_tk1 (List.mem_of_getElem? (i := 195) rfl)) rfl), (zq_tbI (zq_tk1 (List.mem_of_getElem? (i := 6) rfl)) rfl), by decide +kernel, (zq_tbI (zq_tk1 (List.mem_of_getElem? (i := 194) rfl)) rfl), rfl, ⟨by decide, by decide, by decide +kernel⟩⟩
theorem iX1_11 : zq_MN RX1 11 yX7_init cX7_init 1 0 := ⟨(zq_tbI (zq_tk2 (List.mem_of_getElem? (i := 90) rfl)) rfl), (zq_tbI (zq_tk1 (List.mem_of_getElem? (i := 11) rfl)) rfl), by decide +kernel, (zq_tbI (zq_tk2 (List.mem_of_getElem? (i := 89) rfl)) rfl), rfl, ⟨by decide, by decide, by decide +kernel⟩⟩
theorem ci11 : Cond.instantiable RX11 8 ∈ zq_tb := (zq_tbI (zq_tk1 (List.mem_of_getElem? (i := 19) rfl)) rfl)
theorem cX11_7 : Cond.classLink RX11 7 RX8 ∈ zq_tb := (zq_tbI (zq_tk1 (List.mem_of_getElem? (i := 26) rfl)) rfl)
theorem ci8 : Cond.instantiable RX8 4 ∈ zq_tb := (zq_tbI (zq_tk1 (List.mem_of_getElem? (i := 27) rfl)) rfl)
theorem carr : Cond.arrayClass .int ∈ zq_tb := (zq_tbI (zq_tk1 (List.mem_of_getElem? (i := 45) rfl)) rfl)
theorem cX11_16 : Cond.classLink RX11 16 RX9 ∈ zq_tb := (zq_tbI (zq_tk1 (List.mem_of_getElem? (i := 46) rfl)) rfl)
theorem ci9 : Cond.instantiable RX9 8 ∈ zq_tb := (zq_tbI (zq_tk1 (List.mem_of_getElem? (i := 47) rfl)) rfl)
theorem cX9_9 : Cond.classLink RX9 9 RX3 ∈ zq_tb := (zq_tbI (zq_tk1 (List.mem_of_getElem? (i := 52) rfl)) rfl)
theorem ci3 : Cond.instantiable RX3 17 ∈ zq_tb := (zq_tbI (zq_tk1 (List.mem_of_getElem? (i := 53) rfl)) rfl)
theorem cX11_23 : Cond.classLink RX11 23 RX4 ∈ zq_tb := (zq_tbI (zq_tk1 (List.mem_of_getElem? (i := 168) rfl)) rfl)
theorem ci4 : Cond.instantiable RX4 4 ∈ zq_tb := (zq_tbI (zq_tk1 (List.mem_of_getElem? (i := 169) rfl)) rfl)
theorem cX11_32 : Cond.classLink RX11 32 RX2 ∈ zq_tb := (zq_tbI (zq_tk1 (List.mem_of_getElem? (i := 188) rfl)) rfl)
theorem ci2 : Cond.instantiable RX2 6 ∈ zq_tb := (zq_tbI (zq_tk1 (List.mem_of_getElem? (i := 189) rfl)) rfl)
theorem cX11_43 : Cond.classLink RX11 43 RX6 ∈ zq_tb := (zq_tbI (zq_tk1 (List.mem_of_getElem? (i := 221) rfl)) rfl)
theorem ci6 : Cond.instantiable RX6 15 ∈ zq_tb := (zq_tbI (zq_tk1 (List.mem_of_getElem? (i := 222) rfl)) rfl)
theorem cX6_13 : Cond.classLink RX6 13 RX10 ∈ zq_tb := (zq_tbI (zq_tk1 (List.mem_of_getElem? (i := 227) rfl)) rfl)
theorem ci10 : Cond.instantiable RX10 9 ∈ zq_tb := (zq_tbI (zq_tk1 (List.mem_of_getElem? (i := 228) rfl)) rfl)
theorem cX6_23 : Cond.classLink RX6 23 "[[I" ∈ zq_tb := (zq_tbI (zq_tk2 (List.mem_of_getElem? (i := 26) rfl)) rfl)
theorem cX11_52 : Cond.classLink RX11 52 RX1 ∈ zq_tb := (zq_tbI (zq_tk2 (List.mem_of_getElem? (i := 80) rfl)) rfl)
theorem ci1 : Cond.instantiable RX1 10 ∈ zq_tb := (zq_tbI (zq_tk2 (List.mem_of_getElem? (i := 81) rfl)) rfl)
theorem cX1_9 : Cond.classLink RX1 9 RX7 ∈ zq_tb := (zq_tbI (zq_tk2 (List.mem_of_getElem? (i := 86) rfl)) rfl)
theorem ci7 : Cond.instantiable RX7 10 ∈ zq_tb := (zq_tbI (zq_tk2 (List.mem_of_getElem? (i := 87) rfl)) rfl)
theorem cX11_61 : Cond.classLink RX11 61 RX5 ∈ zq_tb := (zq_tbI (zq_tk2 (List.mem_of_getElem? (i := 163) rfl)) rfl)
theorem ci5 : Cond.instantiable RX5 3 ∈ zq_tb := (zq_tbI (zq_tk2 (List.mem_of_getElem? (i := 164) rfl)) rfl)
theorem cX5_18 : Cond.classLink RX5 18 "[[I" ∈ zq_tb := (zq_tbI (zq_tk2 (List.mem_of_getElem? (i := 169) rfl)) rfl)
theorem ci12 : Cond.instantiable RX12 65 ∈ zq_tb := (zq_tbI (zq_tk6 (List.mem_of_getElem? (i := 76) rfl)) rfl)
theorem cn11 : Cond.initialized RX11 ∈ zq_tb := (zq_tbI (zq_tk1 (List.mem_of_getElem? (i := 1) rfl)) rfl)
theorem cn8 : Cond.initialized RX8 ∈ zq_tb := (zq_tbI (zq_tk1 (List.mem_of_getElem? (i := 2) rfl)) rfl)
theorem cn9 : Cond.initialized RX9 ∈ zq_tb := (zq_tbI (zq_tk1 (List.mem_of_getElem? (i := 3) rfl)) rfl)
theorem cn3 : Cond.initialized RX3 ∈ zq_tb := (zq_tbI (zq_tk1 (List.mem_of_getElem? (i := 4) rfl)) rfl)
theorem cn4 : Cond.initialized RX4 ∈ zq_tb := (zq_tbI (zq_tk1 (List.mem_of_getElem? (i := 5) rfl)) rfl)
theorem cn2 : Cond.initialized RX2 ∈ zq_tb := (zq_tbI (zq_tk1 (List.mem_of_getElem? (i := 7) rfl)) rfl)
theorem cn6 : Cond.initialized RX6 ∈ zq_tb := (zq_tbI (zq_tk1 (List.mem_of_getElem? (i := 8) rfl)) rfl)
theorem cn10 : Cond.initialized RX10 ∈ zq_tb := (zq_tbI (zq_tk1 (List.mem_of_getElem? (i := 9) rfl)) rfl)
theorem cn1 : Cond.initialized RX1 ∈ zq_tb := (zq_tbI (zq_tk1 (List.mem_of_getElem? (i := 10) rfl)) rfl)
theorem cn7 : Cond.initialized RX7 ∈ zq_tb := (zq_tbI (zq_tk1 (List.mem_of_getElem? (i := 11) rfl)) rfl)
theorem cn5 : Cond.initialized RX5 ∈ zq_tb := (zq_tbI (zq_tk1 (List.mem_of_getElem? (i := 12) rfl)) rfl)
theorem cn12 : Cond.initialized RX12 ∈ zq_tb := (zq_tbI (zq_tk1 (List.mem_of_getElem? (i := 14) rfl)) rfl)
theorem ct1 : ∀ k, k < 10 → zq_tc 1 k ≤ 2 := by decide
theorem ct2 : ∀ k, k < 6 → zq_tc 2 k ≤ 2 := by decide
theorem ct3 : ∀ k, k < 17 → zq_tc 3 k ≤ 2 := by decide
theorem ct4 : ∀ k, k < 4 → zq_tc 4 k ≤ 2 := by decide
theorem ct5 : ∀ k, k < 3 → zq_tc 5 k ≤ 2 := by decide
theorem ct6 : ∀ k, k < 15 → zq_tc 6 k ≤ 2 := by decide
theorem ct7 : ∀ k, k < 10 → zq_tc 7 k ≤ 2 := by decide
theorem ct8 : ∀ k, k < 4 → zq_tc 8 k ≤ 2 := by decide
theorem ct9 : ∀ k, k < 8 → zq_tc 9 k ≤ 2 := by decide
theorem ct10 : ∀ k, k < 9 → zq_tc 10 k ≤ 2 := by decide
theorem ct11 : ∀ k, k < 8 → zq_tc 11 k ≤ 2 := by decide
theorem ct12 : ∀ k, k < 65 → zq_tc 12 k ≤ 2 := by decide
theorem c_X0_init (n : Nat) {σ : zq_S} (a : Int) : zq_C zc_w yX0_init cX0_init 1 (none) 1 20 n n [ZR a] σ (zq_pv (fun τ => τ = σ)) := by
  refine zq_C_of (by decide) (Nat.le_refl _) (Nat.le_of_ble_eq_true rfl) [some (ZR a)] rfl (fun V hV => ?_)
  refine zr_aload_n (pc := 0) hV dX0_init_0 rfl rfl ?_
  refine zr_objInit (pc := 1) hV dX0_init_1 lo0 lo_i lo_c (Nat.le_refl _) (Nat.le_refl _) ?_
  exact zr_vret (pc := 4) hV dX0_init_4 rfl rfl ⟨rfl, rfl⟩
theorem c_fill0 (n : Nat) {σ : zq_S} (a v : Int) {len : Nat} (hkk : zc_w.2 (zc_w.1 a) = .inl (0, len)) (hpos : 0 ≤ a ∧ a < (n : Int)) (hlen : Nat.ble len 40000 = true) (hv : zq_in v) : zq_C zc_w yJ7_fill_53178 cJ7_fill_53178 4 (none) 0 0 n n [ZR a, ZI v] σ (zq_pv (fun τ => (∀ i : Int, 0 ≤ i ∧ i < len → τ a i = v) ∧ (∀ i : Int, ¬ (0 ≤ i ∧ i < len) → τ a i = σ a i) ∧ (∀ b i, b ≠ a → τ b i = σ b i))) := by
  refine zq_C_of (by decide) (Nat.le_refl _) (Nat.le_of_ble_eq_true rfl) [some (ZR a), some (ZI v), none, none] rfl (fun V hV => ?_)
  have hle := Nat.le_of_ble_eq_true hlen
  refine zr_iconst (pc := 0) hV 0 dJ7_fill_53178_0 rfl ?_
  refine zr_istore_n (pc := 1) hV [some (ZR a), some (ZI v), some (ZI 0), none] dJ7_fill_53178_1 rfl (by decide) rfl rfl ?_
  refine zr_aload_n (pc := 2) hV dJ7_fill_53178_2 rfl rfl ?_
  refine zr_alen (pc := 3) hV dJ7_fill_53178_3 hkk hpos ?_
  refine zr_istore_n (pc := 4) hV [some (ZR a), some (ZI v), some (ZI 0), some (ZI (len : Int))] dJ7_fill_53178_4 rfl (by decide) rfl rfl ?_
  have L5 : ∀ (fuel : Nat) (x : Int) (ρ : zq_S), 0 ≤ x ∧ x ≤ len → (∀ i : Int, 0 ≤ i ∧ i < x → ρ a i = v) → (∀ i : Int, ¬ (0 ≤ i ∧ i < x) → ρ a i = σ a i) → (∀ b i, b ≠ a → ρ b i = σ b i) → (len : Int) - x < (fuel : Int) → V 5 [some (ZR a), some (ZI v), some (ZI x), some (ZI (len : Int))] [] n ρ := by
    intro fuel
    induction fuel with
    | zero => intro x ρ hx _ _ _ hm; exfalso; omega
    | succ fuel ih =>
      intro x ρ hx h1 h3 h2 hm
      refine zr_iload_n (pc := 5) hV dJ7_fill_53178_5 rfl rfl ?_
      refine zr_iload_n (pc := 6) hV dJ7_fill_53178_6 rfl rfl ?_
      refine zr_icmp_ge (pc := 7) hV 20 dJ7_fill_53178_7 (by decide) (by omega) (by omega) (fun c => ?_) (fun c => ?_)
      · exact zr_vret (pc := 20) hV dJ7_fill_53178_20 rfl rfl ⟨rfl, fun i g => h1 i (by omega), fun i g => h3 i (by omega), h2⟩
      · refine zr_aload_n (pc := 10) hV dJ7_fill_53178_10 rfl rfl ?_
        refine zr_iload_n (pc := 11) hV dJ7_fill_53178_11 rfl rfl ?_
        refine zr_iload_n (pc := 12) hV dJ7_fill_53178_12 rfl rfl ?_
        refine zr_iast (pc := 13) hV dJ7_fill_53178_13 hkk hpos hlen (by omega) (fun τ e => ?_)
        refine zr_iinc (pc := 14) hV [some (ZR a), some (ZI v), some (ZI (x + 1)), some (ZI (len : Int))] (x + 1) dJ7_fill_53178_14 rfl rfl (by decide) rfl rfl ?_
        refine zr_goto (pc := 17) hV 5 dJ7_fill_53178_17 (by decide) ?_
        refine ih (x + 1) τ (by omega) (fun i g => ?_) (fun i g => ?_) (fun b i hb => ?_) (by omega)
        · by_cases hi : i = x
          · rw [hi, e]; exact zq_up_same _ _ _ _
          · rw [e, zq_up_ne (fun q => hi q.2)]; exact h1 i (by omega)
        · rw [e, zq_up_ne (fun q => g (by rw [q.2]; omega))]; exact h3 i (by omega)
        · rw [e, zq_up_ne (fun q => hb q.1)]; exact h2 b i hb
  exact L5 (len + 1) 0 σ (by omega) (fun i g => absurd g (by omega)) (fun _ _ => rfl) (fun _ _ _ => rfl) (by omega)

