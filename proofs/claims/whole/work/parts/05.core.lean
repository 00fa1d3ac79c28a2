/-! THE PURE MACHINE'S WORDS: values are whole numbers and handles, cells are rows of whole numbers; B is the address of handle 0 -/
abbrev PV : Type := Int ⊕ Int ⊕ Option Nat
abbrev vI (z : Int) : PV := Sum.inl z
abbrev vJ (z : Int) : PV := Sum.inr (Sum.inl z)
abbrev vR (k : Nat) : PV := Sum.inr (Sum.inr (some k))
abbrev vN : PV := Sum.inr (Sum.inr none)
def tv (B : Nat) (v : PV) : Value := match v with
  | .inl z => .int (Int32.ofInt z)
  | .inr (.inl z) => .long (Int64.ofInt z)
  | .inr (.inr none) => .null
  | .inr (.inr (some k)) => .ref (B + k)
abbrev PC : Type := (Nat × (Nat → Int)) ⊕ (Nat × (Nat → Int)) ⊕ (Nat × Nat × (Nat → Option Nat)) ⊕ (Nat × List PV)
abbrev cI (n : Nat) (f : Nat → Int) : PC := Sum.inl (n, f)
abbrev cJ (n : Nat) (f : Nat → Int) : PC := Sum.inr (Sum.inl (n, f))
abbrev cR (k n : Nat) (f : Nat → Option Nat) : PC := Sum.inr (Sum.inr (Sum.inl (k, n, f)))
abbrev cO (ci : Nat) (fs : List PV) : PC := Sum.inr (Sum.inr (Sum.inr (ci, fs)))
def te (B : Nat) (K : Nat → ClassId) (c : PC) : va_E := match c with
  | .inl (n, f) => .inl (K 0, n, .inl (fun j => Int32.ofInt (f j)))
  | .inr (.inl (n, f)) => .inl (K 1, n, .inr (.inl (fun j => Int64.ofInt (f j))))
  | .inr (.inr (.inl (k, n, f))) => .inl (K (2 + k), n, .inr (.inr (.inr (.inr (fun j => (f j).map (fun i => B + i))))))
  | .inr (.inr (.inr (ci, fs))) => .inr (ci, fs.map (tv B))
abbrev PH : Type := Nat → PC
/-- the heap h with c at k -/
def hp (h : PH) (k : Nat) (c : PC) : PH := fun j => if j = k then c else h j
theorem hp_eq (h : PH) (k : Nat) (c : PC) : hp h k c k = c := if_pos rfl
theorem hp_ne {h : PH} {k j : Nat} {c : PC} (q : j ≠ k) : hp h k c j = h j := if_neg q
def wsO (B : Nat) (K : Nat → ClassId) (n : Nat) (h : PH) : va_W := (List.range n).map (fun k => (B + k, te B K (h k)))
theorem wsO_get {B : Nat} {K : Nat → ClassId} {n : Nat} {h : PH} {k : Nat} (hk : k < n) : (wsO B K n h)[k]? = some (B + k, te B K (h k)) := by
  unfold wsO
  rw [List.getElem?_map, List.getElem?_range hk]
  rfl
theorem wsO_inv {B : Nat} {K : Nat → ClassId} {n : Nat} {h : PH} {k : Nat} {q : Nat × va_E} (hq : (wsO B K n h)[k]? = some q) : k < n ∧ q = (B + k, te B K (h k)) := by
  by_cases hk : k < n
  · rw [wsO_get hk] at hq
    exact ⟨hk, (Option.some.inj hq).symm⟩
  · have : (wsO B K n h)[k]? = none := List.getElem?_eq_none (by unfold wsO; rw [List.length_map, List.length_range]; omega)
    rw [this] at hq
    cases hq
theorem wsO_D {B : Nat} {K : Nat → ClassId} {n : Nat} {h : PH} : va_D (fun q => B ≤ q) (wsO B K n h) := by
  refine ⟨fun i j p q hi hj e => ?_, fun k q hk => ?_⟩
  · obtain ⟨-, rfl⟩ := wsO_inv hi
    obtain ⟨-, rfl⟩ := wsO_inv hj
    have e : B + i = B + j := e
    omega
  · obtain ⟨-, rfl⟩ := wsO_inv hk
    exact Nat.le_add_right B k
theorem wsO_set {B : Nat} {K : Nat → ClassId} {n : Nat} {h : PH} {k : Nat} (c : PC) (hk : k < n) : (wsO B K n h).set k (B + k, te B K c) = wsO B K n (hp h k c) := by
  apply List.ext_getElem?
  intro j
  have hl : (wsO B K n h).length = n := by unfold wsO; rw [List.length_map, List.length_range]
  by_cases hj : j < n
  · rw [wsO_get hj]
    by_cases e : j = k
    · subst e
      rw [List.getElem?_set_self (by omega), hp_eq]
    · rw [List.getElem?_set_ne (Ne.symm e), wsO_get hj, hp_ne e]
  · rw [List.getElem?_eq_none (by rw [List.length_set]; omega), List.getElem?_eq_none (by unfold wsO; rw [List.length_map, List.length_range]; omega)]
theorem wsO_push {B : Nat} {K : Nat → ClassId} {n : Nat} {h : PH} (c : PC) : wsO B K n h ++ [(B + n, te B K c)] = wsO B K (n + 1) (hp h n c) := by
  unfold wsO
  rw [List.range_succ, List.map_append]
  congr 1
  · apply List.map_congr_left
    intro a ha
    rw [hp_ne (Nat.ne_of_lt (List.mem_range.mp ha))]
  · simp only [List.map_cons, List.map_nil, hp_eq]
/-- the locals -/
def prs (B : Nat) : Nat → List (Option PV) → List (Nat × Value)
  | _, [] => []
  | i, none :: l => prs B (i + 1) l
  | i, some v :: l => (i, tv B v) :: prs B (i + 1) l
theorem mem_prs {B : Nat} {q : Nat × Value} : ∀ {L : List (Option PV)} {i : Nat}, q ∈ prs B i L ↔ ∃ (k : Nat) (v : PV), L[k]? = some (some v) ∧ q = (i + k, tv B v)
  | [], i => by simp [prs]
  | none :: l, i => by
    rw [prs, mem_prs (L := l)]
    constructor
    · rintro ⟨k, v, h1, h2⟩
      exact ⟨k + 1, v, by simpa using h1, by rw [h2]; congr 1; omega⟩
    · rintro ⟨k, v, h1, h2⟩
      cases k with
      | zero => simp at h1
      | succ k => exact ⟨k, v, by simpa using h1, by rw [h2]; congr 1; omega⟩
  | some w :: l, i => by
    rw [prs, List.mem_cons, mem_prs (L := l)]
    constructor
    · rintro (h | ⟨k, v, h1, h2⟩)
      · exact ⟨0, w, rfl, by rw [h]; rfl⟩
      · exact ⟨k + 1, v, by simpa using h1, by rw [h2]; congr 1; omega⟩
    · rintro ⟨k, v, h1, h2⟩
      cases k with
      | zero =>
        simp at h1
        subst h1
        exact Or.inl (by rw [h2]; rfl)
      | succ k => exact Or.inr ⟨k, v, by simpa using h1, by rw [h2]; congr 1; omega⟩
theorem lr_get {B : Nat} {ls : Array Slot} {nL : Nat} {L : List (Option PV)} (h : lv_has ls nL (prs B 0 L)) {i : Nat} {v : PV} (hi : L[i]? = some (some v)) : ls[i]? = some (.val (tv B v)) :=
  h.2.2 (i, tv B v) (mem_prs.mpr ⟨i, v, hi, by rw [Nat.zero_add]⟩)
def kJ (a : Option PV) : Option PV := match a with
  | some (.inr (.inl _)) => none
  | a => a
def st1 : List (Option PV) → Nat → PV → List (Option PV)
  | [], _, _ => []
  | _ :: l, 0, v => some v :: l
  | a :: l, 1, v => kJ a :: st1 l 0 v
  | a :: l, i + 2, v => a :: st1 l (i + 1) v
def nx (l : List (Option PV)) : List (Option PV) := match l with
  | [] => []
  | _ :: l => none :: l
def st2 : List (Option PV) → Nat → PV → List (Option PV)
  | [], _, _ => []
  | _ :: l, 0, v => some v :: nx l
  | a :: l, 1, v => kJ a :: st2 l 0 v
  | a :: l, i + 2, v => a :: st2 l (i + 1) v
theorem kJ_some {a : Option PV} {w : PV} (h : kJ a = some w) : a = some w ∧ ∀ B, (tv B w).category ≠ 2 := by
  match a, h with
  | some (.inl z), h =>
    cases h
    exact ⟨rfl, fun B => by simp [tv, Value.category]⟩
  | some (.inr (.inr none)), h =>
    cases h
    exact ⟨rfl, fun B => by simp [tv, Value.category]⟩
  | some (.inr (.inr (some k))), h =>
    cases h
    exact ⟨rfl, fun B => by simp [tv, Value.category]⟩
theorem st1_get {B : Nat} : ∀ {L : List (Option PV)} {i j : Nat} {v w : PV}, (st1 L i v)[j]? = some (some w) → (j = i ∧ w = v) ∨ (L[j]? = some (some w) ∧ j ≠ i ∧ ¬ (j + 1 = i ∧ (tv B w).category = 2))
  | [], i, j, v, w, h => by simp [st1] at h
  | a :: l, 0, j, v, w, h => by
    cases j with
    | zero => simp [st1] at h; exact Or.inl ⟨rfl, h.symm⟩
    | succ j => exact Or.inr ⟨by simpa [st1] using h, by omega, by omega⟩
  | a :: l, 1, j, v, w, h => by
    cases j with
    | zero =>
      simp [st1] at h
      obtain ⟨h1, h2⟩ := kJ_some h
      exact Or.inr ⟨by simp [h1], by omega, fun q => h2 B q.2⟩
    | succ j =>
      have h : (st1 l 0 v)[j]? = some (some w) := by simpa [st1] using h
      rcases st1_get (B := B) h with ⟨h1, h2⟩ | ⟨h1, h2, h3⟩
      · exact Or.inl ⟨by omega, h2⟩
      · exact Or.inr ⟨by simpa using h1, by omega, by omega⟩
  | a :: l, i + 2, j, v, w, h => by
    cases j with
    | zero => exact Or.inr ⟨by simpa [st1] using h, by omega, by omega⟩
    | succ j =>
      have h : (st1 l (i + 1) v)[j]? = some (some w) := by simpa [st1] using h
      rcases st1_get (B := B) h with ⟨h1, h2⟩ | ⟨h1, h2, h3⟩
      · exact Or.inl ⟨by omega, h2⟩
      · exact Or.inr ⟨by simpa using h1, by omega, fun q => h3 ⟨by omega, q.2⟩⟩
theorem nx_get {l : List (Option PV)} {j : Nat} {w : PV} (h : (nx l)[j]? = some (some w)) : l[j]? = some (some w) ∧ j ≠ 0 := by
  cases l with
  | nil => simp [nx] at h
  | cons a l =>
    cases j with
    | zero => simp [nx] at h
    | succ j => exact ⟨by simpa [nx] using h, by omega⟩
theorem st2_get {B : Nat} : ∀ {L : List (Option PV)} {i j : Nat} {v w : PV}, (st2 L i v)[j]? = some (some w) → (j = i ∧ w = v) ∨ (L[j]? = some (some w) ∧ j ≠ i ∧ j ≠ i + 1 ∧ ¬ (j + 1 = i ∧ (tv B w).category = 2))
  | [], i, j, v, w, h => by simp [st2] at h
  | a :: l, 0, j, v, w, h => by
    cases j with
    | zero => simp [st2] at h; exact Or.inl ⟨rfl, h.symm⟩
    | succ j =>
      obtain ⟨h1, h2⟩ := nx_get (l := l) (j := j) (w := w) (by simpa [st2] using h)
      exact Or.inr ⟨by simpa using h1, by omega, by omega, by omega⟩
  | a :: l, 1, j, v, w, h => by
    cases j with
    | zero =>
      simp [st2] at h
      obtain ⟨h1, h2⟩ := kJ_some h
      exact Or.inr ⟨by simp [h1], by omega, by omega, fun q => h2 B q.2⟩
    | succ j =>
      have h : (st2 l 0 v)[j]? = some (some w) := by simpa [st2] using h
      rcases st2_get (B := B) h with ⟨h1, h2⟩ | ⟨h1, h2, h3, h4⟩
      · exact Or.inl ⟨by omega, h2⟩
      · exact Or.inr ⟨by simpa using h1, by omega, by omega, by omega⟩
  | a :: l, i + 2, j, v, w, h => by
    cases j with
    | zero => exact Or.inr ⟨by simpa [st2] using h, by omega, by omega, by omega⟩
    | succ j =>
      have h : (st2 l (i + 1) v)[j]? = some (some w) := by simpa [st2] using h
      rcases st2_get (B := B) h with ⟨h1, h2⟩ | ⟨h1, h2, h3, h4⟩
      · exact Or.inl ⟨by omega, h2⟩
      · exact Or.inr ⟨by simpa using h1, by omega, by omega, fun q => h4 ⟨by omega, q.2⟩⟩
theorem lr_st1 {B : Nat} {ls' : Array Slot} {nL : Nat} {L : List (Option PV)} {i : Nat} {v : PV} (h : lv_has ls' nL ((i, tv B v) :: (prs B 0 L).filter (fun q => !(q.1 == i) && !(q.1 + 1 == i && q.2.category == 2)))) : lv_has ls' nL (prs B 0 (st1 L i v)) := by
  refine ⟨h.1, h.2.1, fun q hq => ?_⟩
  obtain ⟨k, w, h1, rfl⟩ := mem_prs.mp hq
  rcases st1_get (B := B) h1 with ⟨rfl, rfl⟩ | ⟨h1, h2, h3⟩
  · rw [Nat.zero_add]
    exact h.2.2 _ List.mem_cons_self
  · rw [Nat.zero_add]
    refine h.2.2 _ (List.mem_cons_of_mem _ (List.mem_filter.mpr ⟨mem_prs.mpr ⟨k, w, h1, by rw [Nat.zero_add]⟩, ?_⟩))
    simp only [Bool.and_eq_true, Bool.not_eq_true', beq_eq_false_iff_ne, ne_eq, Bool.and_eq_false_iff]
    refine ⟨h2, ?_⟩
    by_cases e : k + 1 = i
    · exact Or.inr (fun z => h3 ⟨e, z⟩)
    · exact Or.inl e
theorem lr_st2 {B : Nat} {ls' : Array Slot} {nL : Nat} {L : List (Option PV)} {i : Nat} {v : PV} (h : lv_has ls' nL ((i, tv B v) :: (prs B 0 L).filter (fun q => !(q.1 == i) && (!(q.1 == i + 1) && !(q.1 + 1 == i && q.2.category == 2))))) : lv_has ls' nL (prs B 0 (st2 L i v)) := by
  refine ⟨h.1, h.2.1, fun q hq => ?_⟩
  obtain ⟨k, w, h1, rfl⟩ := mem_prs.mp hq
  rcases st2_get (B := B) h1 with ⟨rfl, rfl⟩ | ⟨h1, h2, h4, h3⟩
  · rw [Nat.zero_add]
    exact h.2.2 _ List.mem_cons_self
  · rw [Nat.zero_add]
    refine h.2.2 _ (List.mem_cons_of_mem _ (List.mem_filter.mpr ⟨mem_prs.mpr ⟨k, w, h1, by rw [Nat.zero_add]⟩, ?_⟩))
    simp only [Bool.and_eq_true, Bool.not_eq_true', beq_eq_false_iff_ne, ne_eq, Bool.and_eq_false_iff]
    refine ⟨h2, h4, ?_⟩
    by_cases e : k + 1 = i
    · exact Or.inr (fun z => h3 ⟨e, z⟩)
    · exact Or.inl e
/-- numbers that an int, a long holds -/
abbrev IR (a : Int) : Prop := -2147483648 ≤ a ∧ a ≤ 2147483647
abbrev LR (a : Int) : Prop := -9223372036854775808 ≤ a ∧ a ≤ 9223372036854775807
theorem o32_toInt {a : Int} (h : IR a) : (Int32.ofInt a).toInt = a := Int32.toInt_ofInt_of_le (by omega) (by omega)
theorem o64_toInt {a : Int} (h : LR a) : (Int64.ofInt a).toInt = a := Int64.toInt_ofInt_of_le (by omega) (by omega)
theorem o32_lt {a b : Int} (ha : IR a) (hb : IR b) : Int32.ofInt a < Int32.ofInt b ↔ a < b := by rw [Int32.lt_iff_toInt_lt, o32_toInt ha, o32_toInt hb]
theorem o32_le {a b : Int} (ha : IR a) (hb : IR b) : Int32.ofInt a ≤ Int32.ofInt b ↔ a ≤ b := by rw [Int32.le_iff_toInt_le, o32_toInt ha, o32_toInt hb]
theorem o32_eq {a b : Int} (ha : IR a) (hb : IR b) : Int32.ofInt a = Int32.ofInt b ↔ a = b := by rw [← Int32.toInt_inj, o32_toInt ha, o32_toInt hb]
theorem o64_lt {a b : Int} (ha : LR a) (hb : LR b) : Int64.ofInt a < Int64.ofInt b ↔ a < b := by rw [Int64.lt_iff_toInt_lt, o64_toInt ha, o64_toInt hb]
theorem o64_eq {a b : Int} (ha : LR a) (hb : LR b) : Int64.ofInt a = Int64.ofInt b ↔ a = b := by rw [← Int64.toInt_inj, o64_toInt ha, o64_toInt hb]
theorem o32_zero : (0 : Int32) = Int32.ofInt 0 := by decide +kernel
theorem o32_lt0 {a : Int} (ha : IR a) : Int32.ofInt a < 0 ↔ a < 0 := by rw [o32_zero]; exact o32_lt ha (by omega)
theorem o32_eq0 {a : Int} (ha : IR a) : Int32.ofInt a = 0 ↔ a = 0 := by rw [o32_zero]; exact o32_eq ha (by omega)
theorem o32_le0 {a : Int} (ha : IR a) : Int32.ofInt a ≤ 0 ↔ a ≤ 0 := by rw [o32_zero]; exact o32_le ha (by omega)
theorem o32_ge0 {a : Int} (ha : IR a) : 0 ≤ Int32.ofInt a ↔ 0 ≤ a := by rw [o32_zero]; exact o32_le (by omega) ha
theorem o32_gt0 {a : Int} (ha : IR a) : 0 < Int32.ofInt a ↔ 0 < a := by rw [o32_zero]; exact o32_lt (by omega) ha
theorem o32_nat {a : Int} (ha : IR a) : (Int32.ofInt a).toNatClampNeg = a.toNat := Int32.toNatClampNeg_ofInt_of_le (by omega) (by omega)
theorem o32_in {a : Int} {n : Nat} (h0 : 0 ≤ a) (h1 : a < n) (h2 : a ≤ 2147483647) : vp_in (Int32.ofInt a) n := by
  rw [vp_in_iff, o32_toInt (by omega)]
  exact ⟨h0, h1⟩
theorem o32_long {a : Int} (ha : IR a) : (Int32.ofInt a).toInt64 = Int64.ofInt a := by
  rw [← Int64.ofInt_int32ToInt, o32_toInt ha]
/-- the words that all methods are given -/
def TB : List Cond := lw_tbl.filter goodWord
theorem TB_mem {w : Cond} {i : Nat} (h : lw_tbl[i]? = some w) (hg : goodWord w = true) : w ∈ TB := List.mem_filter.mpr ⟨List.mem_of_getElem? h, hg⟩
theorem TB_sub {w : Cond} (h : w ∈ TB) : w ∈ lw_tbl := (List.mem_filter.mp h).1
theorem TB_good {ws : List Cond} (h : ∀ w ∈ ws, w ∈ TB) : GoodIn TB ws := fun w hw => ⟨h w hw, good_of_word (List.mem_filter.mp (h w hw)).2⟩
