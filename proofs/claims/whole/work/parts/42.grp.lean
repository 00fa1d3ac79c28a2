/-! plans that are grouped by family; a job moved ahead -/
theorem bgn_upz {e : Nat → Int} {B b : Nat} {x : Int} (h : b ≤ B) : bgn (upz e B x) b = bgn e b := by
  unfold bgn
  by_cases q : 0 < b
  · rw [if_pos (by omega), if_pos (by omega), upz_ne (by omega)]
  · rw [if_neg (by omega), if_neg (by omega)]
theorem grE_ok {g : Nat → Int} {e : Nat → Int} : ∀ i, (∀ b, b < grB g i → ((bgn (grE g e i) b : Nat) : Int) < grE g e i b ∧ grE g e i b ≤ (i : Int)) ∧ bgn (grE g e i) (grB g i) = i ∧ (0 < i → 0 < grB g i)
  | 0 => ⟨fun b h => absurd h (Nat.not_lt_zero _), rfl, fun h => by omega⟩
  | i + 1 => by
    obtain ⟨h1, h2, h3⟩ := grE_ok (g := g) (e := e) i
    rw [show grE g e (i + 1) = upz (grE g e i) (grB g (i + 1) - 1) ((i : Int) + 1) from rfl]
    by_cases q : i = 0 ∨ g i ≠ g (i - 1)
    · have eB : grB g (i + 1) = grB g i + 1 := by show (if _ then _ else _) = _; rw [if_pos q]
      rw [eB, show grB g i + 1 - 1 = grB g i by omega]
      refine ⟨fun b hb => ?_, ?_, fun _ => by omega⟩
      · rw [bgn_upz (by omega)]
        by_cases z : b = grB g i
        · rw [z, upz_eq, h2]; omega
        · rw [upz_ne z]; have := h1 b (by omega); omega
      · rw [bgn_succ, upz_eq]; omega
    · have eB : grB g (i + 1) = grB g i := by show (if _ then _ else _) = _; rw [if_neg q]
      have hp := h3 (by omega)
      rw [eB]
      obtain ⟨B, hB⟩ : ∃ B, grB g i = B + 1 := ⟨grB g i - 1, by omega⟩
      rw [hB] at h1 h2 ⊢
      rw [bgn_succ] at h2
      rw [show B + 1 - 1 = B by omega]
      have hl := h1 B (by omega)
      refine ⟨fun b hb => ?_, ?_, fun _ => by omega⟩
      · rw [bgn_upz (by omega)]
        by_cases z : b = B
        · rw [z, upz_eq]; omega
        · rw [upz_ne z]; have := h1 b (by omega); omega
      · rw [bgn_succ, upz_eq]; omega
/-- each of c jobs once, as a sequence of whole numbers -/
def Sq (c : Nat) (o : Nat → Int) : Prop := (∀ j, 0 ≤ o j ∧ o j ≤ 7) ∧ (∀ k, k < c → o k < (c : Int)) ∧ ∀ k k', k < c → k' < c → o k = o k' → k = k'
theorem Sq.pok {c : Nat} {o : Nat → Int} (h : Sq c o) (hc : c ≤ 8) (g e : Nat → Int) : Pok c o (grE g e c) (grB g c) c :=
  ⟨hc, grB_le g c, h.1, fun b hb => (grE_ok c).1 b hb, (grE_ok c).2.1, h.2.1, h.2.2⟩
theorem Sq.ord {S : Shp} (hc : S.cnt ≤ 8) {rule : Nat} {o : Nat → Int} (ho : ∀ j, 0 ≤ o j ∧ o j ≤ 7) : Sq S.cnt (ordR S rule o S.cnt) := by
  have h1 := ordR_r (S := S) (rule := rule) ho S.cnt hc
  have h2 := (ordR_ok (S := S) (rule := rule) (o := o) (le := fun _ _ => True) (c := S.cnt) (fun _ _ _ _ _ => trivial) (fun _ _ _ _ _ => trivial) (fun _ _ _ _ _ _ _ _ => trivial) S.cnt (Nat.le_refl _)).1
  refine ⟨h1, fun k hk => ?_, fun k k' hk hk' e => h2.2.1 k k' hk hk' (by unfold jb; rw [e])⟩
  have a := h2.1 k hk
  have b := h1 k
  unfold jb at a
  omega
theorem ordR_surj {S : Shp} (hc : S.cnt ≤ 8) {rule : Nat} {o : Nat → Int} (ho : ∀ j, 0 ≤ o j ∧ o j ≤ 7) {j : Nat} (hj : j < S.cnt) : ∃ p, p < S.cnt ∧ ordR S rule o S.cnt p = (j : Int) := by
  have h1 := ordR_r (S := S) (rule := rule) ho S.cnt hc
  have h2 := (ordR_ok (S := S) (rule := rule) (o := o) (le := fun _ _ => True) (c := S.cnt) (fun _ _ _ _ _ => trivial) (fun _ _ _ _ _ => trivial) (fun _ _ _ _ _ _ _ _ => trivial) S.cnt (Nat.le_refl _)).1
  obtain ⟨p, p1, p2⟩ := h2.2.2 j hj
  have b := h1 p
  unfold jb at p2
  exact ⟨p, p1, by omega⟩
theorem fO_no {o : Nat → Int} {x : Int} : ∀ i, (∀ k, k < i → o k ≠ x) → fN o x i = i ∧ ∀ k, k < i → fO o x i k = o k
  | 0, _ => ⟨rfl, fun k h => by omega⟩
  | i + 1, h => by
    obtain ⟨h1, h2⟩ := fO_no i (fun k hk => h k (by omega))
    have e1 : fN o x (i + 1) = fN o x i + 1 := by show (if _ then _ else _) = _; rw [if_neg (h i (by omega))]
    have e2 : fO o x (i + 1) = upz (fO o x i) (fN o x i) (o i) := by show (if _ then _ else _) = _; rw [if_neg (h i (by omega))]
    refine ⟨by omega, fun k hk => ?_⟩
    rw [e2, h1]
    by_cases z : k = i
    · rw [z, upz_eq]
    · rw [upz_ne z]; exact h2 k (by omega)
theorem fO_at {o : Nat → Int} {x : Int} {p : Nat} (hp : o p = x) : ∀ i, p < i → (∀ k, k < i → k ≠ p → o k ≠ x) → fN o x i = i - 1 ∧ ∀ k, k < i - 1 → fO o x i k = if k < p then o k else o (k + 1)
  | 0, h, _ => by omega
  | i + 1, h, hn => by
    by_cases q : p = i
    · obtain ⟨h1, h2⟩ := fO_no (o := o) (x := x) i (fun k hk => hn k (by omega) (by omega))
      have e1 : fN o x (i + 1) = fN o x i := by show (if _ then _ else _) = _; rw [if_pos (by rw [← q]; exact hp)]
      have e2 : fO o x (i + 1) = fO o x i := by show (if _ then _ else _) = _; rw [if_pos (by rw [← q]; exact hp)]
      refine ⟨by omega, fun k hk => ?_⟩
      rw [e2, if_pos (by omega)]
      exact h2 k (by omega)
    · obtain ⟨h1, h2⟩ := fO_at hp i (by omega) (fun k hk => hn k (by omega))
      have hi := hn i (by omega) (by omega)
      have e1 : fN o x (i + 1) = fN o x i + 1 := by show (if _ then _ else _) = _; rw [if_neg hi]
      have e2 : fO o x (i + 1) = upz (fO o x i) (fN o x i) (o i) := by show (if _ then _ else _) = _; rw [if_neg hi]
      refine ⟨by omega, fun k hk => ?_⟩
      rw [e2, h1]
      by_cases z : k = i - 1
      · rw [z, upz_eq, if_neg (by omega), show i - 1 + 1 = i by omega]
      · rw [upz_ne z]; exact h2 k (by omega)
theorem fO_rg {o : Nat → Int} {x lo hi : Int} (h : ∀ j, lo ≤ o j ∧ o j ≤ hi) : ∀ i j, lo ≤ fO o x i j ∧ fO o x i j ≤ hi
  | 0 => h
  | i + 1 => fun j => by
    unfold fO
    split
    · exact fO_rg h i j
    · unfold upz
      split
      · exact h i
      · exact fO_rg h i j
/-- job x moved to the front -/
def frO (o : Nat → Int) (x : Int) (c : Nat) : Nat → Int := insz (fO o x c) (c - 1) 0 x
theorem Sq.front {c : Nat} {o : Nat → Int} (h : Sq c o) {x : Int} {p : Nat} (hp : p < c) (hx : o p = x) : fN o x c = c - 1 ∧ Sq c (frO o x c) ∧ ∀ k, k < c → frO o x c k = if k = 0 then x else if k ≤ p then o (k - 1) else o k := by
  obtain ⟨h1, h2, h3⟩ := h
  obtain ⟨a1, a2⟩ := fO_at hx c hp (fun k hk hne e => hne (h3 k p hk hp (by rw [e, hx])))
  have hx7 := h1 p
  have hxc := h2 p hp
  have key : ∀ k, k < c → frO o x c k = if k = 0 then x else if k ≤ p then o (k - 1) else o k := fun k hk => by
    unfold frO insz
    rw [if_neg (by omega)]
    by_cases z : k = 0
    · rw [if_pos z, if_pos z]
    · rw [if_neg z, if_neg z, if_pos (by omega), a2 (k - 1) (by omega)]
      by_cases z2 : k ≤ p
      · rw [if_pos z2, if_pos (by omega)]
      · rw [if_neg z2, if_neg (by omega), show k - 1 + 1 = k by omega]
  refine ⟨a1, ⟨insz_r (fO_rg h1 c) (by omega), fun k hk => ?_, fun k k' hk hk' e => ?_⟩, key⟩
  · rw [key k hk]
    split
    · omega
    · split
      · exact h2 _ (by omega)
      · exact h2 _ hk
  · rw [key k hk, key k' hk'] at e
    have inj := fun a b (ha : a < c) (hb : b < c) (he : o a = o b) => h3 a b ha hb he
    by_cases z : k = 0
    · by_cases z' : k' = 0
      · omega
      · rw [if_pos z, if_neg z'] at e
        by_cases y : k' ≤ p
        · rw [if_pos y] at e; have := inj p (k' - 1) hp (by omega) (by rw [hx]; exact e); omega
        · rw [if_neg y] at e; have := inj p k' hp hk' (by rw [hx]; exact e); omega
    · by_cases z' : k' = 0
      · rw [if_neg z, if_pos z'] at e
        by_cases y : k ≤ p
        · rw [if_pos y] at e; have := inj (k - 1) p (by omega) hp (by rw [hx]; exact e); omega
        · rw [if_neg y] at e; have := inj k p hk hp (by rw [hx]; exact e); omega
      · rw [if_neg z, if_neg z'] at e
        by_cases y : k ≤ p <;> by_cases y' : k' ≤ p
        · rw [if_pos y, if_pos y'] at e; have := inj (k - 1) (k' - 1) (by omega) (by omega) e; omega
        · rw [if_pos y, if_neg y'] at e; have := inj (k - 1) k' (by omega) hk' e; omega
        · rw [if_neg y, if_pos y'] at e; have := inj k (k' - 1) hk (by omega) e; omega
        · rw [if_neg y, if_neg y'] at e; exact inj k k' hk hk' e
