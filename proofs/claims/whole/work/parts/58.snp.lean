/-! snapshots of a state, the saved ones, and all the cells of the object -/
abbrev Snp : Type := Shp × PlS × Int × Int
def Snp.S (x : Snp) : Shp := x.1
def Snp.P (x : Snp) : PlS := x.2.1
def Snp.kn (x : Snp) : Int := x.2.2.1
def Snp.bs (x : Snp) : Int := x.2.2.2
def PlOk (c : Nat) (P : PlS) : Prop := Pok c P.od P.en P.bc P.sz
def SnOk (x : Snp) : Prop := Sok x.S ∧ PlOk x.S.cnt x.P ∧ Bst x.S x.kn x.bs
def StS (n : Nat) (h : PH) (a : Nat) (x : Snp) : Prop := StF n h a x.S x.P x.kn x.bs
theorem StS.frm {n : Nat} {h h' : PH} {a : Nat} {x : Snp} {lo hi : Nat} (H : StS n h a x) (E : Fr h h' lo hi) (hk : hi ≤ a ∨ a + 17 ≤ lo) : StS n h' a x := StF.frm H E hk
/-- four places, each once -/
def Pm4 (q : Nat → Nat) : Prop := (∀ i, i < 4 → q i < 4) ∧ ∀ i j, i < 4 → j < 4 → q i = q j → i = j
def svF (b : Nat) (q : Nat → Nat) : Nat → Option Nat := fun i => if i < 4 then some (b + 19 + 17 * q i) else none
def SvP (n : Nat) (h : PH) (b : Nat) (q : Nat → Nat) (x : Nat → Snp) : Prop := At1 n h (b + 18) (cR 0 4 (svF b q)) ∧ ∀ i, i < 4 → StS n h (b + 19 + 17 * q i) (x i)
def SvI (n : Nat) (h : PH) (b : Nat) (x : Nat → Snp) : Prop := ∃ q, Pm4 q ∧ SvP n h b q x
theorem SvP.frm {n : Nat} {h h' : PH} {b : Nat} {q : Nat → Nat} {x : Nat → Snp} {lo hi : Nat} (hq : Pm4 q) (H : SvP n h b q x) (E : Fr h h' lo hi) (hk : hi ≤ b + 18 ∨ b + 87 ≤ lo) : SvP n h' b q x := by
  refine ⟨At1.fr H.1 (E _ (by omega)), fun i hi => ?_⟩
  have := hq.1 i hi
  exact (H.2 i hi).frm E (by omega)
theorem SvI.frm {n : Nat} {h h' : PH} {b : Nat} {x : Nat → Snp} {lo hi : Nat} (H : SvI n h b x) (E : Fr h h' lo hi) (hk : hi ≤ b + 18 ∨ b + 87 ≤ lo) : SvI n h' b x := by
  obtain ⟨q, h1, h2⟩ := H
  exact ⟨q, h1, SvP.frm h1 h2 E hk⟩
theorem fr1 {h h' : PH} {k : Nat} {c : PC} (E : h' = hp h k c) : Fr h h' k (k + 1) := fun j hj => by rw [E, hp_ne (by omega)]
theorem SvI.off {n : Nat} {h h' : PH} {b : Nat} {x : Nat → Snp} {k : Nat} {c : PC} (H : SvI n h b x) (E : h' = hp h k c) (hk : k < b + 18 ∨ b + 87 ≤ k) : SvI n h' b x := H.frm (fr1 E) (by omega)
theorem DrP.off {n : Nat} {h h' : PH} {p k : Nat} {c : PC} (H : DrP n h p) (E : h' = hp h k c) (hk : k < p ∨ p + 3 ≤ k) : DrP n h' p := H.frm (fr1 E) (by omega)
theorem TmP.off {n : Nat} {h h' : PH} {p k : Nat} {c : PC} (H : TmP n h p) (E : h' = hp h k c) (hk : k < p ∨ p + 14 ≤ k) : TmP n h' p := H.frm (fr1 E) (by omega)
theorem SxP.off {n : Nat} {h h' : PH} {p k : Nat} {c : PC} (H : SxP n h p) (E : h' = hp h k c) (hk : k < p ∨ p + 31 ≤ k) : SxP n h' p := H.frm (fr1 E) (by omega)
/-- some shop -/
def ShA (n : Nat) (h : PH) (p : Nat) : Prop := ∃ U : Shp, isShp n h p U
theorem ShA.frm {n : Nat} {h h' : PH} {p lo hi : Nat} (H : ShA n h p) (E : Fr h h' lo hi) (hk : hi ≤ p ∨ p + 13 ≤ lo) : ShA n h' p := by
  obtain ⟨U, h1⟩ := H
  exact ⟨U, isShop.frm h1 E (by omega)⟩
theorem ShA.off {n : Nat} {h h' : PH} {p k : Nat} {c : PC} (H : ShA n h p) (E : h' = hp h k c) (hk : k < p ∨ p + 13 ≤ k) : ShA n h' p := H.frm (fr1 E) (by omega)
/-- a state is saved behind sv others: the oldest of four goes -/
def pshN (sv : Nat) : Nat := if sv = 4 then 4 else sv + 1
def pshX (sv : Nat) (x : Nat → Snp) (c : Snp) : Nat → Snp := if sv = 4 then fun i => if i < 3 then x (i + 1) else c else fun i => if i = sv then c else x i
def setX (x : Nat → Snp) (i : Nat) (c : Snp) : Nat → Snp := fun j => if j = i then c else x j
theorem SvP.put {n : Nat} {h h' : PH} {b : Nat} {q : Nat → Nat} {x : Nat → Snp} {i : Nat} {c : Snp} (hq : Pm4 q) (H : SvP n h b q x) (hi : i < 4) (hc : StS n h' (b + 19 + 17 * q i) c) (E : Fr h h' (b + 19 + 17 * q i) (b + 19 + 17 * q i + 17)) : SvP n h' b q (setX x i c) := by
  have h1 := hq.1 i hi
  refine ⟨At1.fr H.1 (E _ (by omega)), fun j hj => ?_⟩
  unfold setX
  by_cases z : j = i
  · rw [if_pos z, z]; exact hc
  · rw [if_neg z]
    have h2 := hq.1 j hj
    have h3 : q j ≠ q i := fun e => z (hq.2 j i hj hi e)
    exact (H.2 j hj).frm E (by omega)
/-- the references, moved down by one below i -/
def rotF (g : Nat → Option Nat) (i : Nat) : Nat → Option Nat := fun j => if j + 1 < i then g (j + 1) else g j
theorem rotF_step {g : Nat → Option Nat} {i : Nat} (hi : 1 ≤ i) : upr (rotF g i) (i - 1) (g i) = rotF g (i + 1) := by
  funext j
  unfold upr rotF
  by_cases z : j = i - 1
  · rw [if_pos z, if_pos (by omega), show j + 1 = i by omega]
  · rw [if_neg z]
    by_cases y : j + 1 < i
    · rw [if_pos y, if_pos (by omega)]
    · rw [if_neg y, if_neg (by omega)]
def rotQ (q : Nat → Nat) : Nat → Nat := fun i => if i < 3 then q (i + 1) else q 0
theorem rotQ_F {b : Nat} {q : Nat → Nat} : upr (rotF (svF b q) 4) 3 (some (b + 19 + 17 * q 0)) = svF b (rotQ q) := by
  funext j
  unfold upr rotF svF rotQ
  by_cases z : j = 3
  · rw [if_pos z, if_pos (by omega), if_neg (by omega)]
  · rw [if_neg z]
    by_cases y : j + 1 < 4
    · rw [if_pos y, if_pos y, if_pos (by omega), if_pos (by omega)]
    · rw [if_neg y, if_neg (by omega), if_neg (by omega)]
theorem rotQ_ok {q : Nat → Nat} (h : Pm4 q) : Pm4 (rotQ q) := by
  refine ⟨fun i hi => ?_, fun i j hi hj e => ?_⟩
  · unfold rotQ; split
    · exact h.1 _ (by omega)
    · exact h.1 _ (by omega)
  · unfold rotQ at e
    by_cases z : i < 3 <;> by_cases y : j < 3
    · rw [if_pos z, if_pos y] at e; have := h.2 _ _ (by omega) (by omega) e; omega
    · rw [if_pos z, if_neg y] at e; have := h.2 _ _ (by omega) (by omega) e; omega
    · rw [if_neg z, if_pos y] at e; have := h.2 _ _ (by omega) (by omega) e; omega
    · omega
def rotX (x : Nat → Snp) : Nat → Snp := fun i => if i < 3 then x (i + 1) else x 0
theorem SvP.rot {n : Nat} {h : PH} {b : Nat} {q : Nat → Nat} {x : Nat → Snp} (hq : Pm4 q) (H : ∀ i, i < 4 → StS n h (b + 19 + 17 * q i) (x i)) (hA : At1 n h (b + 18) (cR 0 4 (svF b (rotQ q)))) : SvP n h b (rotQ q) (rotX x) := by
  refine ⟨hA, fun i hi => ?_⟩
  unfold rotQ rotX
  by_cases z : i < 3
  · rw [if_pos z, if_pos z]; exact H (i + 1) (by omega)
  · rw [if_neg z, if_neg z]; exact H 0 (by omega)
theorem setX_psh {x : Nat → Snp} {c : Snp} : setX (rotX x) 3 c = fun i => if i < 3 then x (i + 1) else if i = 3 then c else x 0 := by
  funext i
  unfold setX rotX
  by_cases z : i = 3
  · rw [if_pos z, if_neg (by omega), if_pos z]
  · rw [if_neg z]
    by_cases y : i < 3
    · rw [if_pos y, if_pos y]
    · rw [if_neg y, if_neg y, if_neg z]
theorem SvP.cong {n : Nat} {h : PH} {b : Nat} {q : Nat → Nat} {x y : Nat → Snp} (H : SvP n h b q x) (e : ∀ i, i < 4 → x i = y i) : SvP n h b q y := ⟨H.1, fun i hi => by rw [← e i hi]; exact H.2 i hi⟩
/-- what the object is: the present state, how many are saved, the saved ones, the text, its length -/
abbrev CS : Type := Snp × Nat × (Nat → Snp) × (Nat → Int) × Nat
def CS.cur (σ : CS) : Snp := σ.1
def CS.sv (σ : CS) : Nat := σ.2.1
def CS.x (σ : CS) : Nat → Snp := σ.2.2.1
def CS.tx (σ : CS) : Nat → Int := σ.2.2.2.1
def CS.tl (σ : CS) : Nat := σ.2.2.2.2
def CS.S (σ : CS) : Shp := σ.cur.S
def CS.P (σ : CS) : PlS := σ.cur.P
/-- the parts that no call but one that looks for the best, or a rule, writes -/
def BMR (n : Nat) (h : PH) (b : Nat) : Prop := DrP n h (b + 88) ∧ TmP n h (b + 91) ∧ ShA n h (b + 105) ∧ SxP n h (b + 118)
def BMI (n : Nat) (h : PH) (b : Nat) (σ : CS) : Prop := isBM n h b (σ.sv : Int) σ.tx (σ.tl : Int) ∧ StS n h (b + 1) σ.cur ∧ SvI n h b σ.x ∧ BMR n h b
def BOk (σ : CS) : Prop := SnOk σ.cur ∧ σ.sv ≤ 4 ∧ (∀ i, i < σ.sv → SnOk (σ.x i)) ∧ σ.tl ≤ 60 ∧ ∀ i, 0 ≤ σ.tx i ∧ σ.tx i ≤ 127
theorem BMR.frm {n : Nat} {h h' : PH} {b lo hi : Nat} (H : BMR n h b) (E : Fr h h' lo hi) (hk : hi ≤ b + 88 ∨ b + 149 ≤ lo) : BMR n h' b := ⟨H.1.frm E (by omega), H.2.1.frm E (by omega), H.2.2.1.frm E (by omega), H.2.2.2.frm E (by omega)⟩
theorem BMR.off {n : Nat} {h h' : PH} {b k : Nat} {c : PC} (H : BMR n h b) (E : h' = hp h k c) (hk : k < b + 88 ∨ b + 149 ≤ k) : BMR n h' b := H.frm (fr1 E) (by omega)
theorem StS.off {n : Nat} {h h' : PH} {a k : Nat} {x : Snp} {c : PC} (H : StS n h a x) (E : h' = hp h k c) (hk : k < a ∨ a + 17 ≤ k) : StS n h' a x := H.frm (fr1 E) (by omega)
theorem rotF_one {g : Nat → Option Nat} : rotF g 1 = g := by
  funext j
  unfold rotF
  rw [if_neg (by omega)]
theorem psh_rot {sv : Nat} {x : Nat → Snp} {c : Snp} (h : sv = 4) : ∀ i, i < 4 → setX (rotX x) 3 c i = pshX sv x c i := fun i hi => by
  unfold pshX setX rotX
  rw [if_pos h]
  by_cases z : i = 3
  · rw [if_pos z]
    show c = if i < 3 then _ else _
    rw [if_neg (by omega)]
  · rw [if_neg z, if_pos (by omega)]
    show _ = if i < 3 then _ else _
    rw [if_pos (by omega)]
