/-! squares -/
theorem ag1 {W Q a T : Int} (hW : 0 ≤ W) (hQ : 0 ≤ Q) (h : a * a ≤ Q * W) : 2 * (a * T) ≤ Q + T * T * W := by
  by_cases q : W = 0
  · subst q
    rw [Int.mul_zero] at h
    have ha : a = 0 := by
      by_cases z : a = 0
      · exact z
      · exfalso
        rcases (show a < 0 ∨ 0 < a by omega) with z1 | z1
        · have := Int.mul_pos_of_neg_of_neg z1 z1; omega
        · have := Int.mul_pos z1 z1; omega
    rw [ha]; omega
  · have hp : 0 < W := by omega
    have sq : 0 ≤ (a - T * W) * (a - T * W) := by
      rcases (show a - T * W ≤ 0 ∨ 0 ≤ a - T * W by omega) with z | z
      · exact Int.mul_nonneg_of_nonpos_of_nonpos z z
      · exact Int.mul_nonneg z z
    have e1 : (a - T * W) * (a - T * W) = a * a + T * T * W * W - 2 * (a * T) * W := by grind
    have e2 : W * (2 * (a * T)) = 2 * (a * T) * W := by grind
    have e3 : W * (Q + T * T * W) = Q * W + T * T * W * W := by grind
    exact Int.le_of_mul_le_mul_left (a := W) (by omega) hp
theorem ag2 {W Q a V X b : Int} (hW : 0 ≤ W) (hV : 0 ≤ V) (hQ : 0 ≤ Q) (hX : 0 ≤ X) (h1 : a * a ≤ Q * W) (h2 : b * b ≤ X * V) : (a + b) * (a + b) ≤ (Q + X) * (W + V) := by
  have key : 2 * (a * b) ≤ Q * V + X * W := by
    by_cases q : W = 0
    · subst q
      rw [Int.mul_zero] at h1
      have ha : a = 0 := by
        by_cases z : a = 0
        · exact z
        · exfalso
          rcases (show a < 0 ∨ 0 < a by omega) with z1 | z1
          · have := Int.mul_pos_of_neg_of_neg z1 z1; omega
          · have := Int.mul_pos z1 z1; omega
      have := Int.mul_nonneg hQ hV
      rw [ha]; omega
    · have hp : 0 < W := by omega
      have h3 := ag1 (W := V) (Q := X) (a := b) (T := a) hV hX h2
      have h4 := Int.mul_le_mul_of_nonneg_right h1 hV
      have h5 := ag1 (W := V * W) (Q := X * W) (a := b * W) (T := a) (Int.mul_nonneg hV hW) (Int.mul_nonneg hX hW) (by
        have := Int.mul_le_mul_of_nonneg_right h2 (Int.mul_nonneg hW hW)
        have e1 : b * W * (b * W) = b * b * (W * W) := by grind
        have e2 : X * W * (V * W) = X * V * (W * W) := by grind
        omega)
      have sq : 0 ≤ (a * V - b * W) * (a * V - b * W) := by
        rcases (show a * V - b * W ≤ 0 ∨ 0 ≤ a * V - b * W by omega) with z | z
        · exact Int.mul_nonneg_of_nonpos_of_nonpos z z
        · exact Int.mul_nonneg z z
      by_cases q2 : V = 0
      · subst q2
        rw [Int.mul_zero] at h2
        have hb : b = 0 := by
          by_cases z : b = 0
          · exact z
          · exfalso
            rcases (show b < 0 ∨ 0 < b by omega) with z1 | z1
            · have := Int.mul_pos_of_neg_of_neg z1 z1; omega
            · have := Int.mul_pos z1 z1; omega
        have := Int.mul_nonneg hX hW
        rw [hb]; omega
      · have hv : 0 < V := by omega
        have hvw := Int.mul_pos hp hv
        have k1 := Int.mul_le_mul_of_nonneg_right h1 (Int.mul_nonneg hV hV)
        have k2 := Int.mul_le_mul_of_nonneg_right h2 (Int.mul_nonneg hW hW)
        have e1 : (a * V - b * W) * (a * V - b * W) = a * a * (V * V) + b * b * (W * W) - W * V * (2 * (a * b)) := by grind
        have e2 : W * V * (Q * V + X * W) = Q * W * (V * V) + X * V * (W * W) := by grind
        exact Int.le_of_mul_le_mul_left (a := W * V) (by omega) hvw
  have e1 : (a + b) * (a + b) = a * a + b * b + 2 * (a * b) := by grind
  have e2 : (Q + X) * (W + V) = Q * W + X * V + (Q * V + X * W) := by grind
  omega
/-- weights times the time a job of t is late -/
def ltT (S : Shp) (rk : Nat → Int) (t : Nat) (C : Int) : Nat → Int
  | 0 => 0
  | i + 1 => if t / 2 ^ (jb rk i) % 2 = 1 then ltT S rk t C i + S.V 4 (jb rk i) * max 0 (C - S.V 3 (jb rk i)) else ltT S rk t C i
theorem pen_sq {S : Shp} (ho : S.ob = 2) (j : Nat) (C : Int) : pen S j C = S.V 4 j * (max 0 (C - S.V 3 j) * max 0 (C - S.V 3 j)) := by
  unfold pen penz
  rw [if_neg (show ¬ S.ob = 4 by omega), if_neg (show ¬ 4 < S.ob by omega), if_neg (show ¬ S.ob = 0 by omega)]
  by_cases q : C - S.V 3 j ≤ 0
  · rw [if_pos q, show max 0 (C - S.V 3 j) = 0 by omega]; omega
  · rw [if_neg q, if_neg (show ¬ S.ob = 1 by omega), if_pos ho, show max 0 (C - S.V 3 j) = C - S.V 3 j by omega, Int.mul_assoc]
theorem lt_ge {S : Shp} (hk : Sok S) (ho : S.ob = 2) {rk : Nat → Int} {t : Nat} {C : Int} : ∀ i, C * wtT S rk t i - dtT S rk t i ≤ ltT S rk t C i ∧ 0 ≤ ltT S rk t C i
  | 0 => by unfold wtT dtT ltT; omega
  | i + 1 => by
    have h := lt_ge hk ho (rk := rk) (t := t) (C := C) i
    have h4 : 0 ≤ S.V 4 (jb rk i) := (hk.v 4 (jb rk i)).1
    have hd : duL S (jb rk i) = S.V 3 (jb rk i) := by unfold duL; rw [if_neg (by omega)]
    have h1 := Int.mul_le_mul_of_nonneg_left (show C - S.V 3 (jb rk i) ≤ max 0 (C - S.V 3 (jb rk i)) by omega) h4
    have h2 := Int.mul_nonneg h4 (show 0 ≤ max 0 (C - S.V 3 (jb rk i)) by omega)
    unfold wtT dtT ltT
    split
    · rw [hd]
      have e : C * (wtT S rk t i + S.V 4 (jb rk i)) - (dtT S rk t i + S.V 4 (jb rk i) * S.V 3 (jb rk i)) = (C * wtT S rk t i - dtT S rk t i) + S.V 4 (jb rk i) * (C - S.V 3 (jb rk i)) := by grind
      omega
    · exact h
theorem lt_sq {S : Shp} (hk : Sok S) (ho : S.ob = 2) {rk : Nat → Int} {t : Nat} {C : Int} (hC : 0 ≤ C) : ∀ i, ltT S rk t C i * ltT S rk t C i ≤ psT S rk t C i * wtT S rk t i
  | 0 => by unfold ltT psT wtT; omega
  | i + 1 => by
    have h := lt_sq hk ho (rk := rk) (t := t) hC i
    have h4 : 0 ≤ S.V 4 (jb rk i) := (hk.v 4 (jb rk i)).1
    have hw := wtT_r hk.v rk t i
    have hp := ps_pos hk (by omega) (rk := rk) (t := t) hC i
    have hq := pen_pos hk.v (jb rk i) (by omega) hC
    unfold ltT psT wtT
    split
    · refine ag2 hw h4 hp hq h ?_
      rw [pen_sq ho]
      generalize max 0 (C - S.V 3 (jb rk i)) = T
      have e : S.V 4 (jb rk i) * T * (S.V 4 (jb rk i) * T) = S.V 4 (jb rk i) * (T * T) * S.V 4 (jb rk i) := by grind
      omega
    · exact h
theorem sil_sq {S : Shp} (hk : Sok S) {rk : Nat → Int} (hp : Prm S.cnt rk) (ho : S.ob = 2) (dn : Nat) (x : Int) : max 0 (slT S rk dn x S.cnt) * max 0 (slT S rk dn x S.cnt) ≤ sil S rk dn x * wsT S rk dn S.cnt := by
  have a2 := (wsT_r hk.v rk dn S.cnt).1
  unfold sil
  by_cases q : slT S rk dn x S.cnt ≤ 0 ∨ wsT S rk dn S.cnt ≤ 0
  · rw [if_pos q, Int.zero_mul]
    have : slT S rk dn x S.cnt ≤ 0 := by
      rcases q with q | q
      · exact q
      · rw [sl_zero hk hp S.cnt (Nat.le_refl _) q]; exact Int.le_refl _
    rw [show max 0 (slT S rk dn x S.cnt) = 0 by omega]; omega
  · rw [if_neg q, if_pos ho, show max 0 (slT S rk dn x S.cnt) = slT S rk dn x S.cnt by omega]
    generalize slT S rk dn x S.cnt * slT S rk dn x S.cnt = A
    have hw : 0 < wsT S rk dn S.cnt := by omega
    generalize wsT S rk dn S.cnt = w at hw
    have e1 := Int.emod_add_mul_ediv (A + w - 1) w
    have e2 := Int.emod_lt_of_pos (A + w - 1) hw
    rw [Int.mul_comm] at e1
    omega
theorem sil_step2 {S : Shp} (hk : Sok S) {rk : Nat → Int} (hr : Wsp S rk) (hp : Prm S.cnt rk) (ho : S.ob = 2) {dn t : Nat} (hd : t &&& dn = 0) {x en y : Int} (h0 : 0 ≤ en) (h1 : x + swT S.V t S.cnt ≤ en) (h2 : en ≤ y) : sil S rk dn x ≤ psT S rk t en S.cnt + sil S rk (dn ||| t) y := by
  have a1 := sl_step hk hr hp hd h1 h2
  have a2 := lt_ge hk ho (rk := rk) (t := t) (C := en) S.cnt
  have a3 := sil_sq hk hp ho (dn ||| t) y
  have a4 := sil_pos hk rk (dn ||| t) y
  have a5 := ps_pos hk (by omega) (rk := rk) (t := t) h0 S.cnt
  have a7 := lt_sq hk ho (rk := rk) (t := t) h0 S.cnt
  have a8 := ws_two (S := S) (rk := rk) hd S.cnt
  have a9 := wtT_r hk.v rk t S.cnt
  have b1 := (wsT_r hk.v rk (dn ||| t) S.cnt).1
  have b2 := ag2 a9 b1 a5 a4 a7 a3
  have a6 : sil S rk dn x = if slT S rk dn x S.cnt ≤ 0 ∨ wsT S rk dn S.cnt ≤ 0 then 0 else if S.ob = 2 then (slT S rk dn x S.cnt * slT S rk dn x S.cnt + wsT S rk dn S.cnt - 1) / wsT S rk dn S.cnt else slT S rk dn x S.cnt := rfl
  rw [if_pos ho] at a6
  by_cases q : slT S rk dn x S.cnt ≤ 0 ∨ wsT S rk dn S.cnt ≤ 0
  · rw [if_pos q] at a6; omega
  · rw [if_neg q] at a6
    rw [a6]
    have hw : 0 < wsT S rk dn S.cnt := by omega
    have hs : 0 < slT S rk dn x S.cnt := by omega
    have c1 : slT S rk dn x S.cnt ≤ ltT S rk t en S.cnt + max 0 (slT S rk (dn ||| t) y S.cnt) := by omega
    have c2 := Int.mul_le_mul c1 c1 (by omega) (by omega)
    rw [show wtT S rk t S.cnt + wsT S rk (dn ||| t) S.cnt = wsT S rk dn S.cnt by omega] at b2
    have c3 : (slT S rk dn x S.cnt * slT S rk dn x S.cnt + wsT S rk dn S.cnt - 1) / wsT S rk dn S.cnt < psT S rk t en S.cnt + sil S rk (dn ||| t) y + 1 := by
      apply Int.ediv_lt_of_lt_mul hw
      have e : (psT S rk t en S.cnt + sil S rk (dn ||| t) y + 1) * wsT S rk dn S.cnt = (psT S rk t en S.cnt + sil S rk (dn ||| t) y) * wsT S rk dn S.cnt + wsT S rk dn S.cnt := by grind
      omega
    omega
/-! the greatest -/
theorem gl_le {S : Shp} {rk : Nat → Int} {dn : Nat} {x s X : Int} : ∀ c, s ≤ X → (∀ i, i < c → ¬ dn / 2 ^ (jb rk i) % 2 = 1 → pen S (jb rk i) (tmT S rk dn x (i + 1)) ≤ X) → glT S rk dn x s c ≤ X
  | 0, h, _ => h
  | c + 1, h, hi => by
    have h1 := gl_le c h (fun i hc => hi i (by omega))
    have h2 := hi c (by omega)
    unfold glT
    by_cases q : dn / 2 ^ (jb rk c) % 2 = 1
    · rw [if_pos q]; exact h1
    · rw [if_neg q]; have := h2 q; omega
theorem gl_s {S : Shp} {rk : Nat → Int} {dn : Nat} {x s : Int} : ∀ c, s ≤ glT S rk dn x s c
  | 0 => Int.le_refl _
  | c + 1 => by have := gl_s (S := S) (rk := rk) (dn := dn) (x := x) (s := s) c; unfold glT; split <;> omega
theorem gl_at {S : Shp} {rk : Nat → Int} {dn : Nat} {x s : Int} {i : Nat} (hb : ¬ dn / 2 ^ (jb rk i) % 2 = 1) : ∀ c, i < c → pen S (jb rk i) (tmT S rk dn x (i + 1)) ≤ glT S rk dn x s c
  | 0, h => by omega
  | c + 1, h => by
    rw [show glT S rk dn x s (c + 1) = if dn / 2 ^ (jb rk c) % 2 = 1 then glT S rk dn x s c else max (glT S rk dn x s c) (pen S (jb rk c) (tmT S rk dn x (c + 1))) from rfl]
    by_cases q : i = c
    · rw [← q, if_neg hb]; omega
    · have := gl_at (S := S) (x := x) (s := s) hb c (by omega)
      split <;> omega
theorem tm_last {S : Shp} {rk : Nat → Int} {dn : Nat} {x : Int} : ∀ i, tmT S rk dn x i = x ∨ ∃ m, m < i ∧ ¬ dn / 2 ^ (jb rk m) % 2 = 1 ∧ tmT S rk dn x (m + 1) = tmT S rk dn x i
  | 0 => Or.inl rfl
  | i + 1 => by
    by_cases q : dn / 2 ^ (jb rk i) % 2 = 1
    · have e : tmT S rk dn x (i + 1) = tmT S rk dn x i := by show (if _ then _ else _) = _; rw [if_pos q]
      rw [e]
      rcases tm_last (S := S) (rk := rk) (dn := dn) (x := x) i with h | ⟨m, h1, h2, h3⟩
      · exact Or.inl h
      · exact Or.inr ⟨m, by omega, h2, h3⟩
    · exact Or.inr ⟨i, by omega, q, rfl⟩
/-- the line goes by due times -/
def Edd (S : Shp) (rk : Nat → Int) : Prop := ∀ m i, m < i → i < S.cnt → S.V 3 (jb rk m) ≤ S.V 3 (jb rk i)
theorem pen_edd {S : Shp} (ho : 4 ≤ S.ob) {a b : Nat} {C D : Int} (h : S.V 3 a ≤ S.V 3 b) (hc : C ≤ D) : pen S b C ≤ pen S a D := by
  unfold pen penz
  split
  · omega
  · rw [if_pos (show 4 < S.ob by omega), if_pos (show 4 < S.ob by omega)]; exact hc
theorem fld_at {S : Shp} (ho : 4 ≤ S.ob) {P : Nat → Prop} [DecidablePred P] {v : Nat → Int} {s : Int} {j : Nat} (hj : P j) : ∀ c, j < c → v j ≤ fld S P v s c
  | 0, h => by omega
  | c + 1, h => by
    rw [fld_s]
    by_cases q : j = c
    · rw [← q, if_pos hj]; unfold jn; rw [if_pos ho]; omega
    · have := fld_at (v := v) (s := s) ho hj c (by omega)
      unfold jn
      split
      · first | omega | (rw [if_pos ho]; omega)
      · exact this
theorem gl_step {S : Shp} (hk : Sok S) {rk : Nat → Int} (hr : Edd S rk) (hp : Prm S.cnt rk) (ho : 4 ≤ S.ob) {dn t : Nat} (hd : t &&& dn = 0) {x en y s : Int} (h1 : x + swT S.V t S.cnt ≤ en) (h2 : en ≤ y) : glT S rk dn x s S.cnt ≤ glT S rk (dn ||| t) y (smT S t en s S.cnt) S.cnt := by
  have hs : s ≤ smT S t en s S.cnt := by rw [smT_fld]; exact fld_ge _ (fun _ _ _ z => by omega)
  have hg := gl_s (S := S) (rk := rk) (dn := dn ||| t) (x := y) (s := smT S t en s S.cnt) S.cnt
  refine gl_le S.cnt (by omega) (fun i hi hb => ?_)
  have e1 := tm_two (S := S) (rk := rk) hd (x := x) (i + 1)
  have e2 := ptT_mono hk.v (rk := rk) (t := t) (i := i + 1) S.cnt (by omega)
  rw [pt_sw hp] at e2
  have e3 : ∀ m, tmT S rk (dn ||| t) y m = tmT S rk (dn ||| t) x m + (y - x) := fun m => by rw [← tmT_sh]; congr 1; omega
  have h3 := b_orb dn t (jb rk i)
  by_cases q : t / 2 ^ (jb rk i) % 2 = 1
  · rcases tm_last (S := S) (rk := rk) (dn := dn ||| t) (x := x) (i + 1) with q2 | ⟨m, m1, m2, m3⟩
    · have h4 : pen S (jb rk i) en ≤ smT S t en s S.cnt := by
        rw [smT_fld]
        exact fld_at ho (P := fun j => t / 2 ^ j % 2 = 1) (v := fun j => pen S j en) q S.cnt (hp.1 i hi)
      have h5 := pen_mono hk.v (jb rk i) (show tmT S rk dn x (i + 1) ≤ en by omega)
      omega
    · have h4 := gl_at (S := S) (x := y) (s := smT S t en s S.cnt) m2 S.cnt (by omega)
      rw [e3, m3] at h4
      have h5 : S.V 3 (jb rk m) ≤ S.V 3 (jb rk i) := by
        by_cases q3 : m = i
        · rw [q3]; exact Int.le_refl _
        · exact hr m i (by omega) hi
      have h6 := pen_edd ho h5 (show tmT S rk dn x (i + 1) ≤ tmT S rk (dn ||| t) x (i + 1) + (y - x) by omega)
      omega
  · have h4 := gl_at (S := S) (rk := rk) (dn := dn ||| t) (x := y) (s := smT S t en s S.cnt) (i := i) (fun z => (h3.mp z).elim hb q) S.cnt hi
    rw [e3] at h4
    have h5 := pen_mono hk.v (jb rk i) (show tmT S rk dn x (i + 1) ≤ tmT S rk (dn ||| t) x (i + 1) + (y - x) by omega)
    omega
/-- what the line must be -/
def Rkd (S : Shp) (rk : Nat → Int) : Prop := Prm S.cnt rk ∧ (S.ob < 3 → Wsp S rk) ∧ (4 ≤ S.ob → Edd S rk)
theorem gl_all {S : Shp} {rk : Nat → Int} {dn : Nat} {x s : Int} : ∀ c, (∀ i, i < c → dn / 2 ^ (jb rk i) % 2 = 1) → glT S rk dn x s c = s ∧ slT S rk dn x c = 0 ∧ wsT S rk dn c = 0
  | 0, _ => ⟨rfl, rfl, rfl⟩
  | c + 1, h => by
    have h1 := gl_all (S := S) (rk := rk) (dn := dn) (x := x) (s := s) c (fun i hi => h i (by omega))
    unfold glT slT wsT
    rw [if_pos (h c (by omega)), if_pos (h c (by omega)), if_pos (h c (by omega))]
    exact h1
theorem bil_all {S : Shp} {rk : Nat → Int} (hr : Rkd S rk) {dn : Nat} {l f s : Int} (h : dn = alS S) : bil S rk dn l f s = s := by
  have h1 := gl_all (S := S) (rk := rk) (dn := dn) (x := f + ngTo S dn l S.cnt) (s := s) S.cnt (fun i hi => by rw [h]; exact bit_all (hr.1.1 i hi))
  unfold bil
  split
  · exact h1.1
  · split
    · rfl
    · unfold sil; rw [if_pos (Or.inl (by omega))]; omega
theorem bil_step {S : Shp} (hk : Sok S) {rk : Nat → Int} (hr : Rkd S rk) {dn t : Nat} {l f s : Int} (hf : 0 ≤ f) (ht : t < 2 ^ S.cnt) (ho : okS S t = true) (hd : t &&& dn = 0) : bil S rk dn l f s ≤ bil S rk (dn ||| t) (sfT S.V t S.cnt) (endS S t l f) (smT S t (endS S t l f) s S.cnt) := by
  obtain ⟨hp, hw, he⟩ := hr
  obtain ⟨h0, h1⟩ := okS_i ho
  obtain ⟨j, hj, hb⟩ := bit_ex h0 S.cnt ht
  have hfam := sf_mem hk.v hb S.cnt h1 hj
  have hn := ng_le (S := S) (l := l) (dn := dn) (fun z => b_dis hd j ⟨hb, z⟩) S.cnt hj
  rw [hfam] at hn
  have hge := endS_ge hk t l f
  have hng := ngTo_r hk.t (dn ||| t) (sfT S.V t S.cnt) S.cnt
  have hpos := endS_pos hk t l hf
  have hob := hk.o
  have hs : s ≤ smT S t (endS S t l f) s S.cnt := by
    rw [smT_fld]; exact fld_ge _ (fun j _ _ z => pen_pos hk.v j z hpos)
  unfold bil
  by_cases q : 4 ≤ S.ob
  · rw [if_pos q, if_pos q]
    exact gl_step hk (he q) hp q hd (by omega) (by omega)
  · rw [if_neg q, if_neg q]
    by_cases q3 : S.ob = 3
    · rw [if_pos q3, if_pos q3]; exact hs
    · rw [if_neg q3, if_neg q3, smT_ps (by omega) hp]
      have key : sil S rk dn (f + ngTo S dn l S.cnt) ≤ psT S rk t (endS S t l f) S.cnt + sil S rk (dn ||| t) (endS S t l f + ngTo S (dn ||| t) (sfT S.V t S.cnt) S.cnt) := by
        by_cases q2 : S.ob = 2
        · exact sil_step2 hk (hw (by omega)) hp q2 hd hpos (by omega) (by omega)
        · exact sil_step1 hk (hw (by omega)) hp (by omega) hd hpos (by omega) (by omega)
      omega
theorem fin_bil {S : Shp} (hk : Sok S) {rk : Nat → Int} (hr : Rkd S rk) {fi : Int} : ∀ k dn l f s, 0 ≤ f → min (bil S rk dn l f s) INF ≤ fin S fi k dn l f s
  | 0, dn, l, f, s, hf => by
    unfold fin
    by_cases q : dn = alS S
    · rw [if_pos q, bil_all hr q]; omega
    · rw [if_neg q]; omega
  | k + 1, dn, l, f, s, hf => by
    show _ ≤ (if _ then _ else _)
    by_cases q : dn = alS S
    · rw [if_pos q, bil_all hr q]; omega
    · rw [if_neg q]
      refine mnS_ge _ (by omega) (fun t ht hp => ?_)
      obtain ⟨h1, h2, -⟩ := alw_i hp
      have h3 := bil_step hk hr (l := l) (s := s) hf ht h1 h2
      have h4 := fin_bil hk hr (fi := fi) k (dn ||| t) (sfT S.V t S.cnt) (endS S t l f) (smT S t (endS S t l f) s S.cnt) (endS_pos hk t l hf)
      omega
