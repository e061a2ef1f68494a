/-! THE MODEL of a town's moments: 51 cells, as the reference lays them. Printed from wip/am/chk/hand/mo.in. -/
abbrev MO : Type := Nat → Int32
def um (m : MO) (k : Nat) (v : Int32) : MO := fun i => if i = k then v else m i
theorem um_s (m : MO) (k : Nat) (v : Int32) : um m k v k = v := if_pos rfl
theorem um_n (m : MO) (k : Nat) (v : Int32) {i : Nat} (h : i ≠ k) : um m k v i = m i := if_neg h
theorem um_i (m : MO) (k : Nat) (v : Int32) (i : Nat) : um m k v i = if i = k then v else m i := rfl
theorem um_id {m : MO} {k : Nat} {v : Int32} (h : m k = v) : um m k v = m := funext fun i => by
  rw [um_i]
  by_cases q : i = k
  · rw [if_pos q, q, h]
  · rw [if_neg q]
/-- people of a town -/
def dP (d : DR) : Nat := d.2.2.1.length
def dW (d : DR) (p : Nat) : Int32 := Int32.ofInt (d.2.2.1.getD p pr0).2.2.1
def dT (d : DR) (p : Nat) : Int32 := Int32.ofInt (d.2.2.1.getD p pr0).2.2.2.1
def dH (d : DR) (p : Nat) : Int32 := Int32.ofInt (d.2.2.1.getD p pr0).2.2.2.2
/-- the variables of a law -/
def vr9 (a b c e f g h i j : Int32) : Nat → Int32 := fun k => if k = 0 then a else if k = 1 then b else if k = 2 then c else if k = 3 then e else if k = 4 then f else if k = 5 then g else if k = 6 then h else if k = 7 then i else if k = 8 then j else 0
theorem lt9 {j : Nat} (h : j < 9) : j = 0 ∨ j = 1 ∨ j = 2 ∨ j = 3 ∨ j = 4 ∨ j = 5 ∨ j = 6 ∨ j = 7 ∨ j = 8 := by omega
theorem tev_cg {v v' : Nat → Int32} (hv : ∀ j, j < 9 → v j = v' j) : ∀ (c : List (Int × Int)) (st : List Int32), kvc c → tev v c st = tev v' c st
  | [], st, _ => rfl
  | (k, x) :: t, st, h => by
    have ht : kvc t := fun p hp => h p (List.mem_cons_of_mem _ hp)
    have h0 := h (k, x) List.mem_cons_self
    unfold tev
    by_cases q : k = 0
    · rw [if_pos q, if_pos q]
      exact tev_cg hv t _ ht
    · rw [if_neg q, if_neg q]
      by_cases q1 : k = 1
      · rw [if_pos q1, if_pos q1]
        have hx : 0 ≤ x ∧ x ≤ 8 := by
          rcases h0 with w | w | w
          · exact absurd w q
          · exact w.2
          · have w1 : (2 : Int) ≤ k := w.1
            omega
        rw [hv x.toNat (by omega)]
        exact tev_cg hv t _ ht
      · rw [if_neg q1, if_neg q1]
        match st with
        | [] => rfl
        | [a] => rfl
        | b :: a :: r =>
          show (if k = 5 ∧ b = 0 then none else tev v t (opv k a b :: r)) = (if k = 5 ∧ b = 0 then none else tev v' t (opv k a b :: r))
          rw [tev_cg hv t _ ht]
theorem exV_cg {v v' : Nat → Int32} (hv : ∀ j, j < 9 → v j = v' j) {c : List (Int × Int)} (h : kvc c) : exV v c = exV v' c := by
  unfold exV
  rw [tev_cg hv c [] h]
theorem lwB_cg {v v' : Nat → Int32} (hv : ∀ j, j < 9 → v j = v' j) {c : List (Int × Int)} (h : kvc c) : ∀ (l : List BR), (∀ br ∈ l, brk br) → lwB v l c = lwB v' l c
  | [], _ => by
    unfold lwB
    rw [exV_cg hv h]
  | (x, y, z) :: t, hl => by
    have h0 := (hl (x, y, z) List.mem_cons_self).2
    unfold lwB
    rw [exV_cg hv h0.1, exV_cg hv h0.2.1, exV_cg hv h0.2.2, lwB_cg hv h t (fun br hb => hl br (List.mem_cons_of_mem _ hb))]
theorem lwV_cg {d : DR} {k : Nat} {v v' : Nat → Int32} (hd : drk d) (hv : ∀ j, j < 9 → v j = v' j) : lwV d k v = lwV d k v' := by
  unfold lwV
  cases e : d.2.2.2 k with
  | none =>
    show (if k = 0 then Int32.ofInt 9 else if k = 2 then v 5 else Int32.ofInt 0) = (if k = 0 then Int32.ofInt 9 else if k = 2 then v' 5 else Int32.ofInt 0)
    rw [hv 5 (by decide)]
  | some w =>
    have hw := hd.1 k w e
    exact lwB_cg hv hw.2.2 w.1 hw.1
/-- within 0 and b -/
def cl0 (b : Int) (x : Int32) : Int32 := Int32.ofInt (if x.toInt < 0 then 0 else if b < x.toInt then b else x.toInt)
theorem cl0_b {b : Int} {x : Int32} (hb : 0 ≤ b ∧ b < 2147483648) : 0 ≤ (cl0 b x).toInt ∧ (cl0 b x).toInt ≤ b := by
  have h1 := ii_lo x
  have h2 := ii_hi x
  unfold cl0
  split
  · rw [ii_t (by omega) (by omega)]; omega
  · split
    · rw [ii_t (by omega) (by omega)]; omega
    · rw [ii_t (by omega) (by omega)]; omega
/-- the WIDTHS of those of the first people who stand on a RUNG -/
def wOn (d : DR) (m : MO) (c : Int32) : Nat → Int32
  | 0 => Int32.ofInt 0
  | k + 1 => if m k = c then wOn d m c k + dW d k else wOn d m c k
theorem wOn_s (d : DR) (m : MO) (c : Int32) (k : Nat) : wOn d m c (k + 1) = if m k = c then wOn d m c k + dW d k else wOn d m c k := rfl
def roomM (d : DR) (m : MO) (c : Int32) : Int32 := cl0 99 (lwV d 0 (vr9 c (Int32.ofInt d.1) (m 49) (Int32.ofInt 0) (Int32.ofInt 0) (Int32.ofInt 0) (Int32.ofInt 0) (Int32.ofInt 0) (Int32.ofInt 0)))
def quarM (d : DR) (m : MO) (p : Nat) (to : Int32) : Int32 := cl0 99 (lwV d 1 (vr9 (m p) (Int32.ofInt d.1) (m 49) (dW d p) (dT d p) (dH d p) (m (10 + p)) (wOn d m to (dP d)) (Int32.ofInt 0)))
def cupM (d : DR) (m : MO) (p : Nat) (w : Int32) : Int32 := cl0 w.toInt (lwV d 2 (vr9 (m p) (Int32.ofInt d.1) (m 49) (dW d p) (dT d p) (dH d p) (Int32.ofInt 0) (Int32.ofInt 0) w))
def brkM (d : DR) (m : MO) (c : Int32) : Int32 := cl0 100 (lwV d 3 (vr9 c (Int32.ofInt d.1) (m 49) (Int32.ofInt 0) (Int32.ofInt 0) (Int32.ofInt 0) (Int32.ofInt 0) (wOn d m c (dP d)) (Int32.ofInt 0)))
/-- a RUNG that is whole -/
def whB (m : MO) (c : Int) : Bool := decide (m (25 + c.toNat) = Int32.ofInt 0)
/-- a RUNG that is whole and has ROOM for so much more -/
def fitB (d : DR) (m : MO) (c : Int) (w : Int32) : Bool := decide (0 ≤ c ∧ c < d.1) && (whB m c && decide (wOn d m (Int32.ofInt c) (dP d) + w ≤ roomM d m (Int32.ofInt c)))
/-- the RUNG next to a PERSON's on the way -/
def toM (m : MO) (p : Nat) : Int := if (m p).toInt < (m (5 + p)).toInt then (m p).toInt + 1 else (m p).toInt - 1
/-- a PERSON with a goal goes on -/
def goM (d : DR) (p : Nat) (m : MO) : MO := if fitB d m (toM m p) (dW d p) = true then (if Int32.ofInt (toM m p) = m (5 + p) then um (um (um m p (Int32.ofInt (toM m p))) (10 + p) (Int32.ofInt 0)) (5 + p) (Int32.ofInt (-2)) else um (um m p (Int32.ofInt (toM m p))) (10 + p) (Int32.ofInt 0)) else um (um m 50 (Int32.ofInt (if 99999 < (m 50).toInt + (quarM d m p (Int32.ofInt (toM m p))).toInt then 99999 else (m 50).toInt + (quarM d m p (Int32.ofInt (toM m p))).toInt))) (10 + p) (m (10 + p) + Int32.ofInt 1)
def gbM (d : DR) (p : Nat) (m : MO) : MO := if (m (5 + p)).toInt < 0 then m else goM d p m
def mgo (d : DR) : Nat → MO → MO
  | 0, m => m
  | k + 1, m => gbM d k (mgo d k m)
/-- a lot below 100 -/
def lmM (s w : Int32) : Int32 := ((mixv (mixv s (Int32.ofInt 131)) w).toUInt32 >>> ((Int32.ofInt 1).toUInt32 &&& Int32.toUInt32 31)).toInt32
def lotM (s w : Int32) : Int32 := lmM s w - lmM s w / Int32.ofInt 100 * Int32.ofInt 100
def brkB (d : DR) (s : Int32) (m : MO) (c : Nat) : Bool := whB m (c : Int) && decide (lotM s (Int32.ofInt 16 * m 49 + Int32.ofInt (c : Int)) < brkM d m (Int32.ofInt (c : Int)))
/-- the first RUNGS break down -/
def dwn (f : Nat → Bool) : Nat → MO → MO
  | 0, m => m
  | k + 1, m => if f k = true then um (um (dwn f k m) (25 + k) (Int32.ofInt 1)) (37 + k) (dwn f k m (37 + k) + Int32.ofInt 1) else dwn f k m
/-- the next whole RUNG of R, from c on -/
def nxw (m : MO) (R : Nat) : Nat → Nat → Nat
  | 0, _ => R
  | n + 1, c => if c < R then (if whB m (c : Int) = true then c else nxw m R n (c + 1)) else R
def fal (R : Nat) (p : Nat) (m : MO) : MO := if nxw m R R ((m p).toInt + 1).toNat < R then um (um (um (um m (5 + p) (Int32.ofInt (-2))) (10 + p) (Int32.ofInt 0)) p (Int32.ofInt (nxw m R R ((m p).toInt + 1).toNat : Nat))) (20 + p) (m (20 + p) + Int32.ofInt 1) else um (um m (5 + p) (Int32.ofInt (-2))) (10 + p) (Int32.ofInt 0)
def fls (R : Nat) (f : Nat → Bool) : Nat → MO → MO
  | 0, m => m
  | k + 1, m => if f (fls R f k m k).toInt.toNat = true then fal R k (fls R f k m) else fls R f k m
def bkM (d : DR) (s : Int32) (m : MO) : MO := fls d.1.toNat (brkB d s m) (dP d) (dwn (brkB d s m) d.1.toNat m)
def minM (d : DR) (s : Int32) (b : Bool) (m : MO) : MO := um (if b = true then bkM d s (mgo d (dP d) m) else mgo d (dP d) m) 49 ((if b = true then bkM d s (mgo d (dP d) m) else mgo d (dP d) m) 49 + Int32.ofInt 1)
def minsM (d : DR) (s : Int32) (b : Bool) : Nat → MO → MO
  | 0, m => m
  | k + 1, m => minM d s b (minsM d s b k m)
/-- a BUCKET: what is left, and who took what -/
def pou1 (d : DR) (m : MO) (c : Int32) : Nat → Int32 × (Nat → Int32) → Int32 × (Nat → Int32)
  | 0, x => x
  | k + 1, x => if m k = c then ((pou1 d m c k x).1 - cupM d m k (pou1 d m c k x).1, um (pou1 d m c k x).2 k (cupM d m k (pou1 d m c k x).1)) else pou1 d m c k x
def pou (d : DR) (m : MO) : Nat → Int32 × (Nat → Int32) → Int32 × (Nat → Int32)
  | 0, x => x
  | k + 1, x => pou1 d m (Int32.ofInt (k : Int)) (dP d) (pou d m k x)
/-- what stands in a moment of a town -/
def mOK (d : DR) (m : MO) : Prop := (∀ p, p < dP d → (0 ≤ (m p).toInt ∧ (m p).toInt < d.1) ∧ (m (5 + p) = Int32.ofInt (-2) ∨ (0 ≤ (m (5 + p)).toInt ∧ (m (5 + p)).toInt < d.1) ∧ m (5 + p) ≠ m p)) ∧ (∀ c, c < 12 → m (25 + c) = Int32.ofInt 0 ∨ (m (25 + c) = Int32.ofInt 1 ∧ (c : Int) < d.1)) ∧ (0 ≤ (m 50).toInt ∧ (m 50).toInt ≤ 99999)
/-- bounds of a town -/
def dOK (d : DR) : Prop := (1 ≤ d.1 ∧ d.1 ≤ 12) ∧ dP d ≤ 5 ∧ drk d
/-! what stays as it must -/
theorem mOK_mu {d : DR} {m : MO} {k : Nat} {v : Int32} (h : mOK d m) (hd : dOK d) (hk : (10 ≤ k ∧ k < 25) ∨ 37 ≤ k ∧ k ≠ 50) : mOK d (um m k v) := by
  obtain ⟨⟨_, _⟩, hP, _⟩ := hd
  refine ⟨fun p hp => ?_, fun c hc => ?_, ?_⟩
  · rw [um_n _ _ _ (by omega), um_n _ _ _ (by omega)]
    exact h.1 p hp
  · rw [um_n _ _ _ (by omega)]
    exact h.2.1 c hc
  · rw [um_n _ _ _ (by omega)]
    exact h.2.2
theorem mOK_q {d : DR} {m : MO} {v : Int32} (h : mOK d m) (hd : dOK d) (hv : 0 ≤ v.toInt ∧ v.toInt ≤ 99999) : mOK d (um m 50 v) := by
  obtain ⟨⟨_, _⟩, hP, _⟩ := hd
  refine ⟨fun p hp => ?_, fun c hc => ?_, ?_⟩
  · rw [um_n _ _ _ (by omega), um_n _ _ _ (by omega)]
    exact h.1 p hp
  · rw [um_n _ _ _ (by omega)]
    exact h.2.1 c hc
  · rw [um_s]
    exact hv
theorem mOK_b {d : DR} {m : MO} {c : Nat} {v : Int32} (h : mOK d m) (hd : dOK d) (hc : c < 12) (hv : v = Int32.ofInt 0 ∨ (v = Int32.ofInt 1 ∧ (c : Int) < d.1)) : mOK d (um m (25 + c) v) := by
  obtain ⟨⟨_, _⟩, hP, _⟩ := hd
  refine ⟨fun p hp => ?_, fun e he => ?_, ?_⟩
  · rw [um_n _ _ _ (by omega), um_n _ _ _ (by omega)]
    exact h.1 p hp
  · rw [um_i]
    split
    · rename_i q
      rw [show e = c by omega]
      exact hv
    · exact h.2.1 e he
  · rw [um_n _ _ _ (by omega)]
    exact h.2.2
theorem mOK_g {d : DR} {m : MO} {p : Nat} {v : Int32} (h : mOK d m) (hd : dOK d) (hp : p < dP d) (hv : v = Int32.ofInt (-2) ∨ (0 ≤ v.toInt ∧ v.toInt < d.1) ∧ v ≠ m p) : mOK d (um m (5 + p) v) := by
  obtain ⟨⟨_, _⟩, hP, _⟩ := hd
  refine ⟨fun q hq => ?_, fun e he => ?_, ?_⟩
  · rw [um_n _ _ _ (by omega)]
    refine ⟨(h.1 q hq).1, ?_⟩
    rw [um_i]
    by_cases e : q = p
    · subst e
      rw [if_pos rfl]
      exact hv
    · rw [if_neg (by omega)]
      exact (h.1 q hq).2
  · rw [um_n _ _ _ (by omega)]
    exact h.2.1 e he
  · rw [um_n _ _ _ (by omega)]
    exact h.2.2
theorem mOK_a {d : DR} {m : MO} {p : Nat} {v : Int32} (h : mOK d m) (hd : dOK d) (hp : p < dP d) (hv : 0 ≤ v.toInt ∧ v.toInt < d.1) (hg : m (5 + p) = Int32.ofInt (-2) ∨ m (5 + p) ≠ v) : mOK d (um m p v) := by
  obtain ⟨⟨_, _⟩, hP, _⟩ := hd
  refine ⟨fun q hq => ?_, fun e he => ?_, ?_⟩
  · rw [um_n _ _ _ (show 5 + q ≠ p by omega), um_i]
    by_cases e : q = p
    · subst e
      rw [if_pos rfl]
      refine ⟨hv, ?_⟩
      rcases hg with w | w
      · exact Or.inl w
      · rcases (h.1 q hq).2 with z | z
        · exact Or.inl z
        · exact Or.inr ⟨z.1, w⟩
    · rw [if_neg e]
      exact h.1 q hq
  · rw [um_n _ _ _ (by omega)]
    exact h.2.1 e he
  · rw [um_n _ _ _ (by omega)]
    exact h.2.2
theorem um_um {m : MO} {i j : Nat} {x y : Int32} (h : i ≠ j) : um (um m i x) j y = um (um m j y) i x := funext fun k => by
  rw [um_i, um_i, um_i, um_i]
  by_cases q : k = j
  · rw [if_pos q, if_neg (by omega), if_pos q]
  · rw [if_neg q, if_neg q]
/-- the RUNG that is next, in numbers -/
theorem toM_b {d : DR} {m : MO} {p : Nat} (h : mOK d m) (hd : dOK d) (hp : p < dP d) : (-1 ≤ toM m p ∧ toM m p ≤ 12) ∧ toM m p ≠ (m p).toInt := by
  obtain ⟨⟨_, _⟩, hP, _⟩ := hd
  have := (h.1 p hp).1
  unfold toM
  split <;> omega
theorem fitB_d {d : DR} {m : MO} {c : Int} {w : Int32} (h : fitB d m c w = true) : 0 ≤ c ∧ c < d.1 := by
  unfold fitB at h
  simp only [Bool.and_eq_true, decide_eq_true_eq] at h
  exact h.1
theorem goM_ok {d : DR} {m : MO} {p : Nat} (h : mOK d m) (hd : dOK d) (hp : p < dP d) : mOK d (goM d p m) := by
  have hP := hd.2.1
  have hR := hd.1
  have tb := toM_b h hd hp
  unfold goM
  by_cases q : fitB d m (toM m p) (dW d p) = true
  · rw [if_pos q]
    have fb := fitB_d q
    have tt : (Int32.ofInt (toM m p)).toInt = toM m p := ii_t (by omega) (by omega)
    by_cases q2 : Int32.ofInt (toM m p) = m (5 + p)
    · rw [if_pos q2, um_um (show 10 + p ≠ 5 + p by omega), um_um (show p ≠ 5 + p by omega)]
      refine mOK_mu (mOK_a (mOK_g h hd hp (Or.inl rfl)) hd hp (by rw [tt]; exact fb) (Or.inl (um_s _ _ _))) hd (by omega)
    · rw [if_neg q2]
      refine mOK_mu (mOK_a h hd hp (by rw [tt]; exact fb) (Or.inr (fun z => q2 z.symm))) hd (by omega)
  · rw [if_neg q]
    have b1 := h.2.2
    have b2 := cl0_b (b := 99) (x := lwV d 1 (vr9 (m p) (Int32.ofInt d.1) (m 49) (dW d p) (dT d p) (dH d p) (m (10 + p)) (wOn d m (Int32.ofInt (toM m p)) (dP d)) (Int32.ofInt 0))) (by omega)
    refine mOK_mu (mOK_q h hd ?_) hd (by omega)
    unfold quarM
    split
    · rw [ii_t (by omega) (by omega)]; omega
    · rw [ii_t (by omega) (by omega)]; omega
theorem goB_ok {d : DR} {m : MO} {p : Nat} (h : mOK d m) (hd : dOK d) (hp : p < dP d) : mOK d (gbM d p m) := by
  unfold gbM
  split
  · exact h
  · exact goM_ok h hd hp
theorem mgo_ok {d : DR} {m : MO} (h : mOK d m) (hd : dOK d) : ∀ k, k ≤ dP d → mOK d (mgo d k m)
  | 0, _ => h
  | k + 1, hk => goB_ok (mgo_ok h hd k (by omega)) hd (by omega)
theorem dwn_ok {d : DR} {m : MO} {f : Nat → Bool} (h : mOK d m) (hd : dOK d) : ∀ k, k ≤ d.1.toNat → mOK d (dwn f k m)
  | 0, _ => h
  | k + 1, hk => by
    have ih := dwn_ok (f := f) h hd k (by omega)
    unfold dwn
    split
    · have hR := hd.1
      exact mOK_mu (mOK_b ih hd (by omega) (Or.inr ⟨rfl, by omega⟩)) hd (by omega)
    · exact ih
theorem fal_ok {d : DR} {m : MO} {p : Nat} (h : mOK d m) (hd : dOK d) (hp : p < dP d) : mOK d (fal d.1.toNat p m) := by
  have hP := hd.2.1
  have hR := hd.1
  have k1 : mOK d (um (um m (5 + p) (Int32.ofInt (-2))) (10 + p) (Int32.ofInt 0)) := mOK_mu (mOK_g h hd hp (Or.inl rfl)) hd (by omega)
  unfold fal
  split
  · rename_i q
    refine mOK_mu (mOK_a k1 hd hp ?_ (Or.inl ?_)) hd (by omega)
    · rw [ii_t (by omega) (by omega)]; omega
    · rw [um_n _ _ _ (by omega), um_s]
  · exact k1
theorem fls_ok {d : DR} {m : MO} {f : Nat → Bool} (h : mOK d m) (hd : dOK d) : ∀ k, k ≤ dP d → mOK d (fls d.1.toNat f k m)
  | 0, _ => h
  | k + 1, hk => by
    have ih := fls_ok (f := f) h hd k (by omega)
    unfold fls
    split
    · exact fal_ok ih hd (by omega)
    · exact ih
theorem minM_ok {d : DR} {m : MO} {s : Int32} {b : Bool} (h : mOK d m) (hd : dOK d) : mOK d (minM d s b m) := by
  have hR := hd.1
  unfold minM
  have k : mOK d (if b = true then bkM d s (mgo d (dP d) m) else mgo d (dP d) m) := by
    have k0 := mgo_ok h hd (dP d) (Nat.le_refl _)
    split
    · exact fls_ok (dwn_ok k0 hd _ (by omega)) hd _ (Nat.le_refl _)
    · exact k0
  exact mOK_mu k hd (by omega)
theorem minsM_ok {d : DR} {m : MO} {s : Int32} {b : Bool} (h : mOK d m) (hd : dOK d) : ∀ k, mOK d (minsM d s b k m)
  | 0 => h
  | k + 1 => minM_ok (minsM_ok h hd k) hd
/-! more of the model -/
theorem nxw_e (m : MO) (R : Nat) : ∀ (n k c : Nat), R ≤ c + n → n ≤ k → nxw m R k c = nxw m R n c
  | 0, 0, _, _, _ => rfl
  | 0, k + 1, c, h, _ => by
    show (if c < R then (if whB m (c : Int) = true then c else nxw m R k (c + 1)) else R) = R
    rw [if_neg (by omega)]
  | n + 1, 0, _, _, h => absurd h (by omega)
  | n + 1, k + 1, c, h, h2 => by
    show (if c < R then (if whB m (c : Int) = true then c else nxw m R k (c + 1)) else R) = (if c < R then (if whB m (c : Int) = true then c else nxw m R n (c + 1)) else R)
    rw [nxw_e m R n k (c + 1) (by omega) (by omega)]
theorem nxw_s (m : MO) (R n c : Nat) : nxw m R (n + 1) c = if c < R then (if whB m (c : Int) = true then c else nxw m R n (c + 1)) else R := rfl
theorem fal_um {m : MO} {p : Nat} {c v x y : Int32} (hp : p < 5) : um (um (um (um m p c) (20 + p) v) (5 + p) x) (10 + p) y = um (um (um (um m (5 + p) x) (10 + p) y) p c) (20 + p) v := by
  rw [um_um (show 20 + p ≠ 5 + p by omega), um_um (show p ≠ 5 + p by omega), um_um (show 20 + p ≠ 10 + p by omega), um_um (show p ≠ 10 + p by omega)]
theorem dwn_s (f : Nat → Bool) (k : Nat) (m : MO) : dwn f (k + 1) m = if f k = true then um (um (dwn f k m) (25 + k) (Int32.ofInt 1)) (37 + k) (dwn f k m (37 + k) + Int32.ofInt 1) else dwn f k m := rfl
theorem fls_s (R : Nat) (f : Nat → Bool) (k : Nat) (m : MO) : fls R f (k + 1) m = if f (fls R f k m k).toInt.toNat = true then fal R k (fls R f k m) else fls R f k m := rfl
theorem mgo_s (d : DR) (k : Nat) (m : MO) : mgo d (k + 1) m = gbM d k (mgo d k m) := rfl
/-- a BUCKET as the class lets it down -/
def ld1 (d : DR) (c : Int32) : Nat → Int32 × MO → Int32 × MO
  | 0, x => x
  | k + 1, x => if (ld1 d c k x).2 k = c then ((ld1 d c k x).1 - cupM d (ld1 d c k x).2 k (ld1 d c k x).1, um (ld1 d c k x).2 (15 + k) ((ld1 d c k x).2 (15 + k) + cupM d (ld1 d c k x).2 k (ld1 d c k x).1)) else ld1 d c k x
theorem ld1_s (d : DR) (c : Int32) (k : Nat) (x : Int32 × MO) : ld1 d c (k + 1) x = if (ld1 d c k x).2 k = c then ((ld1 d c k x).1 - cupM d (ld1 d c k x).2 k (ld1 d c k x).1, um (ld1 d c k x).2 (15 + k) ((ld1 d c k x).2 (15 + k) + cupM d (ld1 d c k x).2 k (ld1 d c k x).1)) else ld1 d c k x := rfl
def ldn (d : DR) : Nat → Int32 × MO → Int32 × MO
  | 0, x => x
  | k + 1, x => ld1 d (Int32.ofInt (k : Int)) (dP d) (ldn d k x)
theorem ldn_s (d : DR) (k : Nat) (x : Int32 × MO) : ldn d (k + 1) x = ld1 d (Int32.ofInt (k : Int)) (dP d) (ldn d k x) := rfl
theorem cup_sub {b v : Int32} (hb : 0 ≤ b.toInt) : 0 ≤ (b - cl0 b.toInt v).toInt := by
  have h2 := ii_hi b
  have h := cl0_b (b := b.toInt) (x := v) ⟨hb, h2⟩
  have e : b - cl0 b.toInt v = Int32.ofInt (b.toInt - (cl0 b.toInt v).toInt) := by
    rw [← ii_sub, ← ii_of, ← ii_of]
  rw [e, ii_t (by omega) (by omega)]
  omega
theorem ld1_0 {d : DR} {c : Int32} {x : Int32 × MO} (h : 0 ≤ x.1.toInt) : ∀ k, 0 ≤ (ld1 d c k x).1.toInt
  | 0 => h
  | k + 1 => by
    have ih := ld1_0 (d := d) (c := c) h k
    rw [ld1_s]
    split
    · exact cup_sub ih
    · exact ih
theorem ldn_0 {d : DR} {x : Int32 × MO} (h : 0 ≤ x.1.toInt) : ∀ k, 0 ≤ (ldn d k x).1.toInt
  | 0 => h
  | k + 1 => ld1_0 (ldn_0 h k) _
theorem pou1_s (d : DR) (m : MO) (c : Int32) (k : Nat) (x : Int32 × (Nat → Int32)) : pou1 d m c (k + 1) x = if m k = c then ((pou1 d m c k x).1 - cupM d m k (pou1 d m c k x).1, um (pou1 d m c k x).2 k (cupM d m k (pou1 d m c k x).1)) else pou1 d m c k x := rfl
theorem pou_s (d : DR) (m : MO) (k : Nat) (x : Int32 × (Nat → Int32)) : pou d m (k + 1) x = pou1 d m (Int32.ofInt (k : Int)) (dP d) (pou d m k x) := rfl
theorem pou1_0 {d : DR} {m : MO} {c : Int32} {x : Int32 × (Nat → Int32)} (h : 0 ≤ x.1.toInt) : ∀ k, 0 ≤ (pou1 d m c k x).1.toInt
  | 0 => h
  | k + 1 => by
    have ih := pou1_0 (d := d) (m := m) (c := c) h k
    rw [pou1_s]
    split
    · exact cup_sub ih
    · exact ih
theorem pou_0 {d : DR} {m : MO} {x : Int32 × (Nat → Int32)} (h : 0 ≤ x.1.toInt) : ∀ k, 0 ≤ (pou d m k x).1.toInt
  | 0 => h
  | k + 1 => pou1_0 (pou_0 h k) _
/-- the cups are added to what was taken -/
def adT (t : Nat → Int32) : Nat → MO → MO
  | 0, m => m
  | k + 1, m => um (adT t k m) (15 + k) (adT t k m (15 + k) + t k)
theorem adT_s (t : Nat → Int32) (k : Nat) (m : MO) : adT t (k + 1) m = um (adT t k m) (15 + k) (adT t k m (15 + k) + t k) := rfl
theorem adT_n {t : Nat → Int32} {m : MO} {i : Nat} : ∀ k, ¬ (15 ≤ i ∧ i < 15 + k) → adT t k m i = m i
  | 0, _ => rfl
  | k + 1, h => by
    rw [adT_s, um_n _ _ _ (by omega)]
    exact adT_n k (by omega)
theorem adT_i {t : Nat → Int32} {m : MO} {i : Nat} : ∀ k, i < k → adT t k m (15 + i) = m (15 + i) + t i
  | 0, h => absurd h (Nat.not_lt_zero _)
  | k + 1, h => by
    rw [adT_s, um_i]
    by_cases q : i = k
    · subst q
      rw [if_pos rfl, adT_n i (by omega)]
    · rw [if_neg (by omega)]
      exact adT_i k (by omega)
/-! a BUCKET, both ways -/
def ldD (d : DR) (m : MO) (c k i : Nat) : Prop := (15 ≤ i ∧ i < 15 + dP d) ∧ ((m (i - 15)).toInt < (c : Int) ∨ ((m (i - 15)).toInt = (c : Int) ∧ i - 15 < k))
def ldI (d : DR) (m : MO) (c k : Nat) (x : Int32 × MO) (y : Int32 × (Nat → Int32)) : Prop := x.1 = y.1 ∧ ∀ i, (ldD d m c k i → x.2 i = m i + y.2 (i - 15)) ∧ (¬ ldD d m c k i → x.2 i = m i)
theorem cupM_cg {d : DR} {m m' : MO} {p : Nat} {w : Int32} (h1 : m' p = m p) (h2 : m' 49 = m 49) : cupM d m' p w = cupM d m p w := by
  unfold cupM
  rw [h1, h2]
theorem ldI_k {d : DR} {m : MO} {c : Nat} (hP : dP d ≤ 5) (hc : c < 12) {x0 : Int32 × MO} {y0 : Int32 × (Nat → Int32)} (h : ldI d m c 0 x0 y0) : ∀ k, k ≤ dP d → ldI d m c k (ld1 d (Int32.ofInt (c : Int)) k x0) (pou1 d m (Int32.ofInt (c : Int)) k y0)
  | 0, _ => h
  | k + 1, hk => by
    have ih := ldI_k hP hc h k (by omega)
    rw [ld1_s, pou1_s]
    revert ih
    generalize ld1 d (Int32.ofInt (c : Int)) k x0 = x
    generalize pou1 d m (Int32.ofInt (c : Int)) k y0 = y
    intro ih
    obtain ⟨i1, i2⟩ := ih
    have xk : x.2 k = m k := (i2 k).2 (fun z => by have := z.1.1; omega)
    have x49 : x.2 49 = m 49 := (i2 49).2 (fun z => by have := z.1.2; omega)
    have tc : (Int32.ofInt (c : Int)).toInt = (c : Int) := ii_t (by omega) (by omega)
    rw [xk]
    by_cases q : m k = Int32.ofInt (c : Int)
    · rw [if_pos q, if_pos q, cupM_cg xk x49, i1]
      have q2 : (m k).toInt = (c : Int) := by rw [q, tc]
      have x15 : x.2 (15 + k) = m (15 + k) := (i2 (15 + k)).2 (fun z => by
        have z2 := z.2
        rw [show 15 + k - 15 = k by omega] at z2
        omega)
      refine ⟨rfl, fun i => ?_⟩
      show (ldD d m c (k + 1) i → um x.2 (15 + k) (x.2 (15 + k) + cupM d m k y.1) i = m i + um y.2 k (cupM d m k y.1) (i - 15)) ∧ (¬ ldD d m c (k + 1) i → um x.2 (15 + k) (x.2 (15 + k) + cupM d m k y.1) i = m i)
      by_cases e : i = 15 + k
      · subst e
        rw [show 15 + k - 15 = k by omega, um_s, um_s, x15]
        refine ⟨fun _ => rfl, fun z => absurd ⟨⟨by omega, by omega⟩, Or.inr ⟨?_, ?_⟩⟩ z⟩
        · rw [show 15 + k - 15 = k by omega]; exact q2
        · omega
      · rw [um_n _ _ _ e]
        refine ⟨fun z => ?_, fun z => (i2 i).2 (fun w => z ⟨w.1, ?_⟩)⟩
        · have z1 := z.1
          rw [um_n _ _ _ (by omega)]
          refine (i2 i).1 ⟨z.1, ?_⟩
          rcases z.2 with w | w
          · exact Or.inl w
          · exact Or.inr ⟨w.1, by omega⟩
        · rcases w.2 with v | v
          · exact Or.inl v
          · exact Or.inr ⟨v.1, by omega⟩
    · rw [if_neg q, if_neg q]
      have q2 : ¬ (m k).toInt = (c : Int) := fun z => q (by rw [ii_of (m k), z])
      refine ⟨i1, fun i => ⟨fun z => (i2 i).1 ⟨z.1, ?_⟩, fun z => (i2 i).2 (fun w => z ⟨w.1, ?_⟩)⟩⟩
      · rcases z.2 with w | w
        · exact Or.inl w
        · refine Or.inr ⟨w.1, ?_⟩
          have : ¬ i - 15 = k := fun e => q2 (by rw [← e]; exact w.1)
          omega
      · rcases w.2 with v | v
        · exact Or.inl v
        · exact Or.inr ⟨v.1, by omega⟩
theorem ldI_c {d : DR} {m : MO} (hP : dP d ≤ 5) {w : Int32} {t0 : Nat → Int32} (hm : ∀ p, p < dP d → 0 ≤ (m p).toInt) : ∀ c, c ≤ 12 → ldI d m c 0 (ldn d c (w, m)) (pou d m c (w, t0))
  | 0, _ => ⟨rfl, fun i => ⟨fun z => by
      have := hm (i - 15) (by have := z.1; omega)
      rcases z.2 with v | v
      · omega
      · have := v.2
        omega, fun _ => rfl⟩⟩
  | c + 1, hc => by
    have ih := ldI_c hP (w := w) (t0 := t0) hm c (by omega)
    have k := ldI_k hP (by omega) ih (dP d) (Nat.le_refl _)
    rw [ldn_s, pou_s]
    refine ⟨k.1, fun i => ⟨fun z => (k.2 i).1 ⟨z.1, ?_⟩, fun z => (k.2 i).2 (fun v => z ⟨v.1, ?_⟩)⟩⟩
    · have z1 := z.1
      have z2 := z.2
      have : ((c + 1 : Nat) : Int) = (c : Int) + 1 := rfl
      omega
    · have z1 := v.1
      have z2 := v.2
      have : ((c + 1 : Nat) : Int) = (c : Int) + 1 := rfl
      omega
theorem ld_pou {d : DR} {m : MO} {w : Int32} {t0 : Nat → Int32} (hd : dOK d) (hM : mOK d m) : (ldn d d.1.toNat (w, m)).1 = (pou d m d.1.toNat (w, t0)).1 ∧ (ldn d d.1.toNat (w, m)).2 = adT (pou d m d.1.toNat (w, t0)).2 (dP d) m := by
  have hR := hd.1
  have k := ldI_c hd.2.1 (w := w) (t0 := t0) (fun p hp => (hM.1 p hp).1.1) d.1.toNat (by omega)
  refine ⟨k.1, funext fun i => ?_⟩
  by_cases q : 15 ≤ i ∧ i < 15 + dP d
  · have hb := (hM.1 (i - 15) (by omega)).1
    rw [(k.2 i).1 ⟨q, Or.inl (by omega)⟩]
    have e := adT_i (t := (pou d m d.1.toNat (w, t0)).2) (m := m) (i := i - 15) (dP d) (by omega)
    rw [show 15 + (i - 15) = i by omega] at e
    exact e.symm
  · rw [(k.2 i).2 (fun z => q z.1), adT_n _ q]
/-- what a bucket leaves -/
theorem adT_ok {d : DR} {m : MO} {t : Nat → Int32} (h : mOK d m) (hd : dOK d) : ∀ k, k ≤ dP d → mOK d (adT t k m)
  | 0, _ => h
  | k + 1, hk => by
    have := hd.2.1
    exact mOK_mu (adT_ok h hd k (by omega)) hd (by omega)
theorem ldn_ok {d : DR} {m : MO} {w : Int32} (hd : dOK d) (hM : mOK d m) : mOK d (ldn d d.1.toNat (w, m)).2 := by
  rw [(ld_pou (t0 := fun _ => 0) hd hM).2]
  exact adT_ok hM hd _ (Nat.le_refl _)
