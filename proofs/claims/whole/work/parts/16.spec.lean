/-! WHAT A SHOP IS, AND WHAT IT SAYS: jobs, setups, objective -/
abbrev Shp : Type := Nat × (Nat → Nat → Int) × (Nat → Nat → Int) × Int × Int × Int
def Shp.cnt (S : Shp) : Nat := S.1
def Shp.V (S : Shp) : Nat → Nat → Int := S.2.1
def Shp.T (S : Shp) : Nat → Nat → Int := S.2.2.1
def Shp.wh (S : Shp) : Int := S.2.2.2.1
def Shp.er (S : Shp) : Int := S.2.2.2.2.1
def Shp.ob (S : Shp) : Int := S.2.2.2.2.2
/-- rows of a job's values: 0 family, 1 time, 2 release, 3 due, 4 weight -/
def Vok (V : Nat → Nat → Int) : Prop := ∀ w j, 0 ≤ V w j ∧ V w j ≤ 500 ∧ (w = 0 → V w j ≤ 3) ∧ (w = 1 → V w j ≤ 50) ∧ (w = 2 → V w j ≤ 300) ∧ (w = 4 → V w j ≤ 9)
def Tok (T : Nat → Nat → Int) : Prop := ∀ r t, 0 ≤ T r t ∧ T r t ≤ 60
def Sok (S : Shp) : Prop := S.cnt ≤ 8 ∧ Vok S.V ∧ Tok S.T ∧ (S.wh = 0 ∨ S.wh = 1) ∧ (S.er = 0 ∨ S.er = 1) ∧ (0 ≤ S.ob ∧ S.ob ≤ 5) ∧ ∀ j, j < S.cnt → 1 ≤ S.V 1 j ∧ 1 ≤ S.V 4 j
theorem Sok.c {S : Shp} (h : Sok S) : S.cnt ≤ 8 := h.1
theorem Sok.v {S : Shp} (h : Sok S) : Vok S.V := h.2.1
theorem Sok.t {S : Shp} (h : Sok S) : Tok S.T := h.2.2.1
theorem Sok.w {S : Shp} (h : Sok S) : S.wh = 0 ∨ S.wh = 1 := h.2.2.2.1
theorem Sok.e {S : Shp} (h : Sok S) : S.er = 0 ∨ S.er = 1 := h.2.2.2.2.1
theorem Sok.o {S : Shp} (h : Sok S) : 0 ≤ S.ob ∧ S.ob ≤ 5 := h.2.2.2.2.2.1
theorem Sok.p {S : Shp} (h : Sok S) : ∀ j, j < S.cnt → 1 ≤ S.V 1 j ∧ 1 ≤ S.V 4 j := h.2.2.2.2.2.2
def isShp (n : Nat) (h : PH) (s : Nat) (S : Shp) : Prop := isShop n h s (S.cnt : Int) S.V S.T S.wh S.er S.ob
/-- what job j that is completed at C adds -/
def penz (ob : Int) (V : Nat → Nat → Int) (j : Nat) (C : Int) : Int :=
  if ob = 4 then C - V 3 j else if 4 < ob then C else if ob = 0 then V 4 j * C else if C - V 3 j ≤ 0 then 0 else if ob = 1 then V 4 j * (C - V 3 j) else if ob = 2 then V 4 j * (C - V 3 j) * (C - V 3 j) else V 4 j
def pen (S : Shp) (j : Nat) (C : Int) : Int := penz S.ob S.V j C
def neu (S : Shp) : Int := if 4 ≤ S.ob then -1000000000000 else 0
def jn (S : Shp) (a b : Int) : Int := if 4 ≤ S.ob then max a b else a + b
/-- a big bound on what is added up -/
theorem penz_le {ob : Int} {V : Nat → Nat → Int} {j : Nat} {C : Int} (hV : Vok V) (hC : 0 ≤ C ∧ C ≤ 100000) : -500 ≤ penz ob V j C ∧ penz ob V j C ≤ 100000000000 := by
  have h3 := hV 3 j
  have h4 := hV 4 j
  have w1 : V 4 j ≤ 9 := h4.2.2.2.2.2 rfl
  have hw : 0 ≤ V 4 j := h4.1
  have hd : 0 ≤ V 3 j := h3.1
  have hd2 : V 3 j ≤ 500 := h3.2.1
  unfold penz
  split
  · omega
  · split
    · omega
    · split
      · have := Int.mul_le_mul w1 hC.2 hC.1 (by omega)
        have := Int.mul_nonneg hw hC.1
        omega
      · split
        · omega
        · have l0 : 0 ≤ C - V 3 j := by omega
          have l1 : C - V 3 j ≤ 100000 := by omega
          have a1 := Int.mul_le_mul w1 l1 l0 (by omega)
          have a2 := Int.mul_nonneg hw l0
          split
          · omega
          · split
            · have b1 := Int.mul_le_mul a1 l1 l0 (by omega)
              have b2 := Int.mul_nonneg a2 l0
              omega
            · omega
