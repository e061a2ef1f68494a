/-! THE REFERENCE'S READER: the text cut into tokens. Printed from wip/am/chk/hand/ct.in. -/
def ctM : sa_M := [(51, 10, 10 + 1), (54, 0, 403), (55, 0, 403), (56, 0, 403), (57, 0, 403)]
def pK (σ : am_S) : Int := (σ.1 51 10).toInt
def pZ (σ : am_S) : Int := (σ.1 51 4).toInt
theorem pK_b {σ : am_S} (h : sb_ok BB SH σ) : 0 ≤ pK σ ∧ pK σ ≤ 402 := h.2 51 12 10 rfl
theorem pZ_b {σ : am_S} (h : sb_ok BB SH σ) : 0 ≤ pZ σ ∧ pZ σ ≤ 2000 := h.2 51 12 4 rfl
theorem pl_i1 (σ : am_S) (o k : Nat) (x : Int64) (o' i : Nat) : (am_pl σ o k x).1 o' i = σ.1 o' i := rfl
theorem ti_255 (a : Int32) : 0 ≤ (a &&& Int32.ofInt 255).toInt ∧ (a &&& Int32.ofInt 255).toInt ≤ 255 := ti_and (b := Int32.ofInt 255) (by decide)
theorem dX12_sign_0 : decode cX12_sign 0 = .ok (.iload_n 2, 1) := dk_ok (by decide +kernel)
theorem dX12_sign_1 : decode cX12_sign 1 = .ok (.bipush 59, 2) := dk_ok (by decide +kernel)
theorem dX12_sign_3 : decode cX12_sign 3 = .ok (.if_icmp .ne 7, 3) := dk_ok (by decide +kernel)
theorem dX12_sign_6 : decode cX12_sign 6 = .ok (.iconst 4, 1) := dk_ok (by decide +kernel)
theorem dX12_sign_7 : decode cX12_sign 7 = .ok (.goto 36, 3) := dk_ok (by decide +kernel)
theorem dX12_sign_10 : decode cX12_sign 10 = .ok (.iload_n 2, 1) := dk_ok (by decide +kernel)
theorem dX12_sign_11 : decode cX12_sign 11 = .ok (.bipush 61, 2) := dk_ok (by decide +kernel)
theorem dX12_sign_13 : decode cX12_sign 13 = .ok (.if_icmp .ne 7, 3) := dk_ok (by decide +kernel)
theorem dX12_sign_16 : decode cX12_sign 16 = .ok (.iconst 5, 1) := dk_ok (by decide +kernel)
theorem dX12_sign_17 : decode cX12_sign 17 = .ok (.goto 26, 3) := dk_ok (by decide +kernel)
theorem dX12_sign_20 : decode cX12_sign 20 = .ok (.iload_n 2, 1) := dk_ok (by decide +kernel)
theorem dX12_sign_21 : decode cX12_sign 21 = .ok (.bipush 40, 2) := dk_ok (by decide +kernel)
theorem dX12_sign_23 : decode cX12_sign 23 = .ok (.if_icmp .ne 8, 3) := dk_ok (by decide +kernel)
theorem dX12_sign_26 : decode cX12_sign 26 = .ok (.bipush 6, 2) := dk_ok (by decide +kernel)
theorem dX12_sign_28 : decode cX12_sign 28 = .ok (.goto 15, 3) := dk_ok (by decide +kernel)
theorem dX12_sign_31 : decode cX12_sign 31 = .ok (.iload_n 2, 1) := dk_ok (by decide +kernel)
theorem dX12_sign_32 : decode cX12_sign 32 = .ok (.bipush 41, 2) := dk_ok (by decide +kernel)
theorem dX12_sign_34 : decode cX12_sign 34 = .ok (.if_icmp .ne 8, 3) := dk_ok (by decide +kernel)
theorem dX12_sign_37 : decode cX12_sign 37 = .ok (.bipush 7, 2) := dk_ok (by decide +kernel)
theorem dX12_sign_39 : decode cX12_sign 39 = .ok (.goto 4, 3) := dk_ok (by decide +kernel)
theorem dX12_sign_42 : decode cX12_sign 42 = .ok (.iconst 3, 1) := dk_ok (by decide +kernel)
theorem dX12_sign_43 : decode cX12_sign 43 = .ok (.istore 4, 2) := dk_ok (by decide +kernel)
theorem dX12_sign_45 : decode cX12_sign 45 = .ok (.iload_n 2, 1) := dk_ok (by decide +kernel)
theorem dX12_sign_46 : decode cX12_sign 46 = .ok (.bipush 43, 2) := dk_ok (by decide +kernel)
theorem dX12_sign_48 : decode cX12_sign 48 = .ok (.if_icmp .ne 7, 3) := dk_ok (by decide +kernel)
theorem dX12_sign_51 : decode cX12_sign 51 = .ok (.bipush 8, 2) := dk_ok (by decide +kernel)
theorem dX12_sign_53 : decode cX12_sign 53 = .ok (.istore 4, 2) := dk_ok (by decide +kernel)
theorem dX12_sign_55 : decode cX12_sign 55 = .ok (.iload_n 2, 1) := dk_ok (by decide +kernel)
theorem dX12_sign_56 : decode cX12_sign 56 = .ok (.bipush 45, 2) := dk_ok (by decide +kernel)
theorem dX12_sign_58 : decode cX12_sign 58 = .ok (.if_icmp .ne 7, 3) := dk_ok (by decide +kernel)
theorem dX12_sign_61 : decode cX12_sign 61 = .ok (.bipush 9, 2) := dk_ok (by decide +kernel)
theorem dX12_sign_63 : decode cX12_sign 63 = .ok (.istore 4, 2) := dk_ok (by decide +kernel)
theorem dX12_sign_65 : decode cX12_sign 65 = .ok (.iload_n 2, 1) := dk_ok (by decide +kernel)
theorem dX12_sign_66 : decode cX12_sign 66 = .ok (.bipush 42, 2) := dk_ok (by decide +kernel)
theorem dX12_sign_68 : decode cX12_sign 68 = .ok (.if_icmp .ne 7, 3) := dk_ok (by decide +kernel)
theorem dX12_sign_71 : decode cX12_sign 71 = .ok (.bipush 10, 2) := dk_ok (by decide +kernel)
theorem dX12_sign_73 : decode cX12_sign 73 = .ok (.istore 4, 2) := dk_ok (by decide +kernel)
theorem dX12_sign_75 : decode cX12_sign 75 = .ok (.iload_n 2, 1) := dk_ok (by decide +kernel)
theorem dX12_sign_76 : decode cX12_sign 76 = .ok (.bipush 47, 2) := dk_ok (by decide +kernel)
theorem dX12_sign_78 : decode cX12_sign 78 = .ok (.if_icmp .ne 7, 3) := dk_ok (by decide +kernel)
theorem dX12_sign_81 : decode cX12_sign 81 = .ok (.bipush 15, 2) := dk_ok (by decide +kernel)
theorem dX12_sign_83 : decode cX12_sign 83 = .ok (.istore 4, 2) := dk_ok (by decide +kernel)
theorem dX12_sign_85 : decode cX12_sign 85 = .ok (.iload_n 2, 1) := dk_ok (by decide +kernel)
theorem dX12_sign_86 : decode cX12_sign 86 = .ok (.bipush 60, 2) := dk_ok (by decide +kernel)
theorem dX12_sign_88 : decode cX12_sign 88 = .ok (.if_icmp .ne 7, 3) := dk_ok (by decide +kernel)
theorem dX12_sign_91 : decode cX12_sign 91 = .ok (.bipush 13, 2) := dk_ok (by decide +kernel)
theorem dX12_sign_93 : decode cX12_sign 93 = .ok (.istore 4, 2) := dk_ok (by decide +kernel)
theorem dX12_sign_95 : decode cX12_sign 95 = .ok (.aload_n 0, 1) := dk_ok (by decide +kernel)
theorem dX12_sign_96 : decode cX12_sign 96 = .ok (.iload 4, 2) := dk_ok (by decide +kernel)
theorem dX12_sign_98 : decode cX12_sign 98 = .ok (.iload_n 1, 1) := dk_ok (by decide +kernel)
theorem dX12_sign_99 : decode cX12_sign 99 = .ok (.iconst 0, 1) := dk_ok (by decide +kernel)
theorem dX12_sign_100 : decode cX12_sign 100 = .ok (.lconst 0, 1) := dk_ok (by decide +kernel)
theorem dX12_sign_101 : decode cX12_sign 101 = .ok (.invokevirtual 176, 3) := dk_ok (by decide +kernel)
theorem dX12_sign_104 : decode cX12_sign 104 = .ok (.iconst 1, 1) := dk_ok (by decide +kernel)
theorem dX12_sign_105 : decode cX12_sign 105 = .ok (.ireturn, 1) := dk_ok (by decide +kernel)

/-- a token more -/
abbrev tkN (σ τ : am_S) : Prop := sI BB SH ctM σ τ ∧ pK τ = pK σ + 1 ∧ pZ τ = pZ σ
section
variable {σ0 : am_S} {post : Option Value → am_S → Prop} {AA : Nat → List (Option Value) → List Value → Nat → am_S → Prop}
end