/-- a method's body keeps its word -/
def am_B (cc : ByteArray) (X : am_X) (maxL mc : Nat) (sp : am_Sp) : Prop := ∀ (n0 : Nat) (as : List Value) (σ : am_S) (post : Option Value → am_S → Prop) (AA : Nat → List (Option Value) → List Value → Nat → am_S → Prop), (∀ cuts f pc ls stk n τ, am_vc cc X (n0 + mc) post AA cuts f pc ls stk n τ → AA pc ls stk n τ) → sp as n0 σ post → (am_sl as).length ≤ maxL ∧ AA 0 (am_entry maxL as) [] n0 σ
theorem am_tg_eq {pc t : Nat} {off : Int} {k : Nat → Prop} (h : (pc : Int) + off = (t : Int)) : am_tg pc off k = k t := by
  unfold am_tg
  rw [h]
  simp
theorem fv_0 : ((0 : Fin 4) : Nat) = 0 := rfl
theorem fv_1 : ((1 : Fin 4) : Nat) = 1 := rfl
theorem fv_2 : ((2 : Fin 4) : Nat) = 2 := rfl
theorem fv_3 : ((3 : Fin 4) : Nat) = 3 := rfl
theorem fw_0 : ((0 : Fin 2) : Nat) = 0 := rfl
theorem fw_1 : ((1 : Fin 2) : Nat) = 1 := rfl
/-! ints as whole numbers: Int32.ofInt z -/
theorem ii_0 : (0 : Int32) = Int32.ofInt 0 := rfl
theorem ii_1 : (1 : Int32) = Int32.ofInt 1 := rfl
theorem ii_add (a b : Int) : Int32.ofInt a + Int32.ofInt b = Int32.ofInt (a + b) := (Int32.ofInt_add a b).symm
theorem ii_sub (a b : Int) : Int32.ofInt a - Int32.ofInt b = Int32.ofInt (a - b) := (Int32.ofInt_sub a b).symm
theorem ii_mul (a b : Int) : Int32.ofInt a * Int32.ofInt b = Int32.ofInt (a * b) := (Int32.ofInt_mul a b).symm
theorem ii_t {a : Int} (h : -2147483648 ≤ a) (h2 : a < 2147483648) : (Int32.ofInt a).toInt = a := Int32.toInt_ofInt_of_le (by omega) (by omega)
theorem ii_lt {a b : Int} (h : -2147483648 ≤ a) (h2 : a < 2147483648) (h3 : -2147483648 ≤ b) (h4 : b < 2147483648) : (Int32.ofInt a < Int32.ofInt b) = (a < b) := by
  rw [Int32.lt_iff_toInt_lt, ii_t h h2, ii_t h3 h4]
theorem ii_le {a b : Int} (h : -2147483648 ≤ a) (h2 : a < 2147483648) (h3 : -2147483648 ≤ b) (h4 : b < 2147483648) : (Int32.ofInt a ≤ Int32.ofInt b) = (a ≤ b) := by
  rw [Int32.le_iff_toInt_le, ii_t h h2, ii_t h3 h4]
theorem ii_eq {a b : Int} (h : -2147483648 ≤ a) (h2 : a < 2147483648) (h3 : -2147483648 ≤ b) (h4 : b < 2147483648) : (Int32.ofInt a = Int32.ofInt b) = (a = b) := by
  rw [← Int32.toInt_inj, ii_t h h2, ii_t h3 h4]
theorem ii_c {a : Int} (h : 0 ≤ a) (h2 : a < 2147483648) : (Int32.ofInt a).toNatClampNeg = a.toNat := by
  show (Int32.ofInt a).toInt.toNat = _
  rw [ii_t (by omega) h2]
theorem ii_in {a : Int} {n : Nat} (h : -2147483648 ≤ a) (h2 : a < 2147483648) : vp_in (Int32.ofInt a) n = (0 ≤ a ∧ a < (n : Int)) := by
  rw [vp_in_iff, ii_t h h2]
theorem ii_of (x : Int32) : x = Int32.ofInt x.toInt := (Int32.ofInt_toInt x).symm
theorem ii_lo (x : Int32) : -2147483648 ≤ x.toInt := Int32.le_toInt x
theorem ii_hi (x : Int32) : x.toInt < 2147483648 := Int32.toInt_lt x
theorem pi_s (σ : am_S) (o k : Nat) (x : Int32) : (am_pi σ o k x).1 o k = x := by simp [am_pi]
theorem pi_n (σ : am_S) (o k : Nat) (x : Int32) {o' k' : Nat} (h : ¬ (o' = o ∧ k' = k)) : (am_pi σ o k x).1 o' k' = σ.1 o' k' := by simp [am_pi, h]
theorem pi_2 (σ : am_S) (o k : Nat) (x : Int32) : (am_pi σ o k x).2 = σ.2 := rfl
theorem pl_1 (σ : am_S) (o k : Nat) (x : Int64) : (am_pl σ o k x).1 = σ.1 := rfl
theorem pl_s (σ : am_S) (o k : Nat) (x : Int64) : (am_pl σ o k x).2 o k = x := by simp [am_pl]
theorem pl_n (σ : am_S) (o k : Nat) (x : Int64) {o' k' : Nat} (h : ¬ (o' = o ∧ k' = k)) : (am_pl σ o k x).2 o' k' = σ.2 o' k' := by simp [am_pl, h]
