/-! sums, and the same sum in another order -/
def sumZ (f : Nat → Int) : Nat → Int
  | 0 => 0
  | c + 1 => sumZ f c + f c
theorem sumZ_congr {f g : Nat → Int} : ∀ c, (∀ i, i < c → f i = g i) → sumZ f c = sumZ g c
  | 0, _ => rfl
  | c + 1, h => by unfold sumZ; rw [sumZ_congr c (fun i hi => h i (by omega)), h c (by omega)]
theorem sumZ_add (f g : Nat → Int) : ∀ c, sumZ (fun i => f i + g i) c = sumZ f c + sumZ g c
  | 0 => rfl
  | c + 1 => by unfold sumZ; rw [sumZ_add f g c]; omega
theorem sumZ_zero : ∀ c, sumZ (fun _ => 0) c = 0
  | 0 => rfl
  | c + 1 => by unfold sumZ; rw [sumZ_zero c]; rfl
theorem sumZ_swap (F : Nat → Nat → Int) (c2 : Nat) : ∀ c1, sumZ (fun i => sumZ (F i) c2) c1 = sumZ (fun j => sumZ (fun i => F i j) c1) c2
  | 0 => (sumZ_zero c2).symm
  | c1 + 1 => by
    show sumZ (fun i => sumZ (F i) c2) c1 + sumZ (F c1) c2 = sumZ (fun j => sumZ (fun i => F i j) c1 + F c1 j) c2
    rw [sumZ_swap F c2 c1, sumZ_add]
theorem sumZ_delta {j0 : Nat} {f : Nat → Int} : ∀ c, sumZ (fun j => if j = j0 then f j else 0) c = if j0 < c then f j0 else 0
  | 0 => by rw [if_neg (by omega)]; rfl
  | c + 1 => by
    show sumZ (fun j => if j = j0 then f j else 0) c + (if c = j0 then f c else 0) = _
    rw [sumZ_delta c]
    by_cases q : c = j0
    · rw [if_neg (by omega), if_pos q, if_pos (by omega), q]; omega
    · rw [if_neg q]
      by_cases q2 : j0 < c
      · rw [if_pos q2, if_pos (by omega)]; omega
      · rw [if_neg q2, if_neg (by omega)]; rfl
theorem sumZ_perm {r : Nat → Nat} {f : Nat → Int} {c : Nat} (h1 : ∀ i, i < c → r i < c) (h2 : ∀ i i', i < c → i' < c → r i = r i' → i = i') (h3 : ∀ j, j < c → ∃ i, i < c ∧ r i = j) : sumZ (fun i => f (r i)) c = sumZ f c := by
  have e1 : sumZ (fun i => f (r i)) c = sumZ (fun i => sumZ (fun j => if j = r i then f j else 0) c) c :=
    sumZ_congr c (fun i hi => by rw [sumZ_delta, if_pos (h1 i hi)])
  rw [e1, sumZ_swap]
  refine sumZ_congr c (fun j hj => ?_)
  obtain ⟨i0, hi0, e0⟩ := h3 j hj
  have e2 : sumZ (fun i => if j = r i then f j else 0) c = sumZ (fun i => if i = i0 then (fun _ => f j) i else 0) c :=
    sumZ_congr c (fun i hi => by
      by_cases q : i = i0
      · rw [if_pos q, if_pos (by rw [q, e0])]
      · rw [if_neg q, if_neg (fun z => q (h2 i i0 hi hi0 (by rw [e0, ← z])))])
  rw [e2, sumZ_delta, if_pos hi0]
/-- the line holds each job once -/
def Prm (c : Nat) (rk : Nat → Int) : Prop := (∀ i, i < c → jb rk i < c) ∧ (∀ i i', i < c → i' < c → jb rk i = jb rk i' → i = i') ∧ ∀ j, j < c → ∃ i, i < c ∧ jb rk i = j
def psT (S : Shp) (rk : Nat → Int) (t : Nat) (en : Int) : Nat → Int
  | 0 => 0
  | i + 1 => if t / 2 ^ (jb rk i) % 2 = 1 then psT S rk t en i + pen S (jb rk i) en else psT S rk t en i
def pnJ (S : Shp) (t : Nat) (en : Int) (j : Nat) : Int := if t / 2 ^ j % 2 = 1 then pen S j en else 0
def tiJ (V : Nat → Nat → Int) (t : Nat) (j : Nat) : Int := if t / 2 ^ j % 2 = 1 then V 1 j else 0
theorem psT_sum {S : Shp} {rk : Nat → Int} {t : Nat} {en : Int} : ∀ c, psT S rk t en c = sumZ (fun i => pnJ S t en (jb rk i)) c
  | 0 => rfl
  | c + 1 => by unfold psT sumZ; rw [psT_sum c]; unfold pnJ; split <;> omega
theorem smT_sum {S : Shp} (ho : S.ob < 4) {t : Nat} {en s : Int} : ∀ c, smT S t en s c = s + sumZ (pnJ S t en) c
  | 0 => by unfold smT sumZ; omega
  | c + 1 => by unfold smT sumZ; rw [smT_sum ho c]; unfold jn; rw [if_neg (show ¬ 4 ≤ S.ob by omega)]; unfold pnJ; split <;> omega
theorem smT_ps {S : Shp} (ho : S.ob < 4) {rk : Nat → Int} (hp : Prm S.cnt rk) {t : Nat} {en s : Int} : smT S t en s S.cnt = s + psT S rk t en S.cnt := by
  rw [smT_sum ho, psT_sum, sumZ_perm (r := jb rk) (f := pnJ S t en) hp.1 hp.2.1 hp.2.2]
theorem ptT_sum {S : Shp} {rk : Nat → Int} {t : Nat} : ∀ c, ptT S rk t c = sumZ (fun i => tiJ S.V t (jb rk i)) c
  | 0 => rfl
  | c + 1 => by unfold ptT sumZ; rw [ptT_sum c]; unfold tiJ; split <;> omega
theorem swT_sum {V : Nat → Nat → Int} {t : Nat} : ∀ c, swT V t c = sumZ (tiJ V t) c
  | 0 => rfl
  | c + 1 => by unfold swT sumZ; rw [swT_sum c]; unfold tiJ; split <;> omega
theorem pt_sw {S : Shp} {rk : Nat → Int} (hp : Prm S.cnt rk) {t : Nat} : ptT S rk t S.cnt = swT S.V t S.cnt := by
  rw [swT_sum, ptT_sum, sumZ_perm (r := jb rk) (f := tiJ S.V t) hp.1 hp.2.1 hp.2.2]
theorem ptT_mono {S : Shp} (hV : Vok S.V) {rk : Nat → Int} {t i : Nat} : ∀ c, i ≤ c → ptT S rk t i ≤ ptT S rk t c
  | 0, h => by rw [show i = 0 by omega]; exact Int.le_refl _
  | c + 1, h => by
    by_cases q : i = c + 1
    · rw [q]; exact Int.le_refl _
    · have h1 := ptT_mono hV (rk := rk) (t := t) c (show i ≤ c by omega)
      have := hV 1 (jb rk c)
      rw [show ptT S rk t (c + 1) = if t / 2 ^ (jb rk c) % 2 = 1 then ptT S rk t c + S.V 1 (jb rk c) else ptT S rk t c from rfl]
      split <;> omega
/-! sums of penalties -/
theorem pen_lin {S : Shp} (hk : Sok S) (j : Nat) {C : Int} (ho : S.ob = 0 ∨ S.ob = 1) : S.V 4 j * (C - duL S j) ≤ pen S j C := by
  have h4 : 0 ≤ S.V 4 j := (hk.v 4 j).1
  unfold pen penz duL
  rcases ho with q | q
  · rw [if_neg (show ¬ S.ob = 4 by omega), if_neg (show ¬ 4 < S.ob by omega), if_pos q, if_pos q, Int.sub_zero]; exact Int.le_refl _
  · rw [if_neg (show ¬ S.ob = 4 by omega), if_neg (show ¬ 4 < S.ob by omega), if_neg (show ¬ S.ob = 0 by omega), if_neg (show ¬ S.ob = 0 by omega)]
    by_cases q2 : C - S.V 3 j ≤ 0
    · rw [if_pos q2]; exact Int.mul_nonpos_of_nonneg_of_nonpos h4 q2
    · rw [if_neg q2, if_pos q]; exact Int.le_refl _
theorem ps_lin {S : Shp} (hk : Sok S) {rk : Nat → Int} {t : Nat} {C : Int} (ho : S.ob = 0 ∨ S.ob = 1) : ∀ i, C * wtT S rk t i - dtT S rk t i ≤ psT S rk t C i
  | 0 => by unfold wtT dtT psT; omega
  | i + 1 => by
    have h := ps_lin hk (rk := rk) (t := t) (C := C) ho i
    have h1 := pen_lin hk (jb rk i) (C := C) ho
    unfold wtT dtT psT
    split
    · have e : C * (wtT S rk t i + S.V 4 (jb rk i)) - (dtT S rk t i + S.V 4 (jb rk i) * duL S (jb rk i)) = (C * wtT S rk t i - dtT S rk t i) + S.V 4 (jb rk i) * (C - duL S (jb rk i)) := by grind
      omega
    · exact h
theorem ps_pos {S : Shp} (hk : Sok S) (ho : S.ob < 4) {rk : Nat → Int} {t : Nat} {C : Int} (hC : 0 ≤ C) : ∀ i, 0 ≤ psT S rk t C i
  | 0 => Int.le_refl _
  | i + 1 => by
    have h := ps_pos hk ho (rk := rk) (t := t) hC i
    have h1 := pen_pos hk.v (jb rk i) ho hC
    unfold psT
    split <;> omega
theorem ws_two {S : Shp} {rk : Nat → Int} {dn t : Nat} (hd : t &&& dn = 0) : ∀ i, wsT S rk dn i = wsT S rk (dn ||| t) i + wtT S rk t i
  | 0 => rfl
  | i + 1 => by
    have h := ws_two (S := S) (rk := rk) hd i
    have h1 := b_orb dn t (jb rk i)
    have h2 := b_dis hd (jb rk i)
    unfold wsT wtT
    by_cases q1 : dn / 2 ^ (jb rk i) % 2 = 1
    · rw [if_pos q1, if_pos (h1.mpr (Or.inl q1)), if_neg (fun z => h2 ⟨z, q1⟩)]; exact h
    · by_cases q2 : t / 2 ^ (jb rk i) % 2 = 1
      · rw [if_neg q1, if_pos (h1.mpr (Or.inr q2)), if_pos q2]; omega
      · rw [if_neg q1, if_neg (fun z => (h1.mp z).elim q1 q2), if_neg q2]; omega
theorem sl_zero {S : Shp} (hk : Sok S) {rk : Nat → Int} (hp : Prm S.cnt rk) {dn : Nat} {x : Int} : ∀ i, i ≤ S.cnt → wsT S rk dn i ≤ 0 → slT S rk dn x i = 0
  | 0, _, _ => rfl
  | i + 1, hi, h => by
    have h1 := (hk.p (jb rk i) (hp.1 i (by omega))).2
    have h2 := (wsT_r hk.v rk dn i).1
    unfold wsT at h
    unfold slT
    by_cases q : dn / 2 ^ (jb rk i) % 2 = 1
    · rw [if_pos q] at h ⊢; exact sl_zero hk hp i (by omega) h
    · rw [if_neg q] at h; omega
/-- the line of the jobs left, against the jobs of a set first and then the line of the others -/
theorem sl_step {S : Shp} (hk : Sok S) {rk : Nat → Int} (hr : Wsp S rk) (hp : Prm S.cnt rk) {dn t : Nat} (hd : t &&& dn = 0) {x en y : Int} (h1 : x + swT S.V t S.cnt ≤ en) (h2 : en ≤ y) : slT S rk dn x S.cnt ≤ en * wtT S rk t S.cnt - dtT S rk t S.cnt + slT S rk (dn ||| t) y S.cnt := by
  have h := sl_two hk hr hd (x := x) S.cnt (Nat.le_refl _)
  rw [pt_sw hp] at h
  have a1 := wtT_r hk.v rk t S.cnt
  have a2 := (wsT_r hk.v rk (dn ||| t) S.cnt).1
  have a3 := Int.mul_le_mul_of_nonneg_right h1 a1
  have a4 : slT S rk (dn ||| t) y S.cnt = slT S rk (dn ||| t) (x + swT S.V t S.cnt) S.cnt + (y - (x + swT S.V t S.cnt)) * wsT S rk (dn ||| t) S.cnt := by
    rw [← slT_sh]; congr 1; omega
  have a5 := Int.mul_nonneg (show 0 ≤ y - (x + swT S.V t S.cnt) by omega) a2
  omega
theorem sil_pos {S : Shp} (hk : Sok S) (rk : Nat → Int) (dn : Nat) (x : Int) : 0 ≤ sil S rk dn x := by
  unfold sil
  by_cases q : slT S rk dn x S.cnt ≤ 0 ∨ wsT S rk dn S.cnt ≤ 0
  · rw [if_pos q]; exact Int.le_refl _
  · rw [if_neg q]
    have q1 : 0 < slT S rk dn x S.cnt := by omega
    have q2 : 0 < wsT S rk dn S.cnt := by omega
    split
    · exact Int.ediv_nonneg (by have := Int.mul_pos q1 q1; omega) (by omega)
    · omega
theorem sil_lin {S : Shp} (hk : Sok S) {rk : Nat → Int} (hp : Prm S.cnt rk) (ho : S.ob ≠ 2) (dn : Nat) (x : Int) : slT S rk dn x S.cnt ≤ sil S rk dn x := by
  unfold sil
  by_cases q : slT S rk dn x S.cnt ≤ 0 ∨ wsT S rk dn S.cnt ≤ 0
  · rw [if_pos q]
    rcases q with q | q
    · exact q
    · rw [sl_zero hk hp S.cnt (Nat.le_refl _) q]; exact Int.le_refl _
  · rw [if_neg q, if_neg ho]; exact Int.le_refl _
theorem sil_step1 {S : Shp} (hk : Sok S) {rk : Nat → Int} (hr : Wsp S rk) (hp : Prm S.cnt rk) (ho : S.ob = 0 ∨ S.ob = 1) {dn t : Nat} (hd : t &&& dn = 0) {x en y : Int} (h0 : 0 ≤ en) (h1 : x + swT S.V t S.cnt ≤ en) (h2 : en ≤ y) : sil S rk dn x ≤ psT S rk t en S.cnt + sil S rk (dn ||| t) y := by
  have a1 := sl_step hk hr hp hd h1 h2
  have a2 := ps_lin hk (rk := rk) (t := t) (C := en) ho S.cnt
  have a3 := sil_lin hk hp (by omega) (dn ||| t) y
  have a4 := sil_pos hk rk (dn ||| t) y
  have a5 := ps_pos hk (by omega) (rk := rk) (t := t) h0 S.cnt
  have a6 : sil S rk dn x = if slT S rk dn x S.cnt ≤ 0 ∨ wsT S rk dn S.cnt ≤ 0 then 0 else if S.ob = 2 then (slT S rk dn x S.cnt * slT S rk dn x S.cnt + wsT S rk dn S.cnt - 1) / wsT S rk dn S.cnt else slT S rk dn x S.cnt := rfl
  rw [if_neg (show ¬ S.ob = 2 by omega)] at a6
  by_cases q : slT S rk dn x S.cnt ≤ 0 ∨ wsT S rk dn S.cnt ≤ 0
  · rw [if_pos q] at a6; omega
  · rw [if_neg q] at a6; omega
