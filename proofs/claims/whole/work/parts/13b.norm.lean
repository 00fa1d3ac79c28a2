/-! CELLS THAT ARE THE SAME WITHIN THEIR LENGTHS -/
def CEq (c c' : PC) : Prop := c = c' ∨ (∃ N f g, c = cI N f ∧ c' = cI N g ∧ ∀ j, j < N → f j = g j) ∨ (∃ N f g, c = cJ N f ∧ c' = cJ N g ∧ ∀ j, j < N → f j = g j)
theorem CEq.i {N : Nat} {f g : Nat → Int} (h : ∀ j, j < N → f j = g j) : CEq (cI N f) (cI N g) := Or.inr (Or.inl ⟨N, f, g, rfl, rfl, h⟩)
theorem CEq.j {N : Nat} {f g : Nat → Int} (h : ∀ j, j < N → f j = g j) : CEq (cJ N f) (cJ N g) := Or.inr (Or.inr ⟨N, f, g, rfl, rfl, h⟩)
theorem arrV_congr {c : ClassId} {N : Nat} {f g : Nat → Value} (h : ∀ j, j < N → f j = g j) : arrV c N f = arrV c N g := by
  have e : (arrV c N f).slots = (arrV c N g).slots := by
    apply Array.ext_getElem?
    intro j
    by_cases hj : j < N
    · rw [arrV_read _ _ hj, arrV_read _ _ hj, h j hj]
    · rw [Array.getElem?_eq_none (by rw [arrV_size]; omega), Array.getElem?_eq_none (by rw [arrV_size]; omega)]
  unfold arrV at e ⊢
  simp only [Cell.mk.injEq]
  simp only at e
  first | exact ⟨rfl, e, rfl⟩ | simp [e]
theorem HP_norm {D : va_G} {B : Nat} {K : Nat → ClassId} {n : Nat} {h h' : PH} {H : Heap} (hP : va_P D vwCl (wsO B K n h) H) (hE : ∀ k, k < n → CEq (h k) (h' k)) : va_P D vwCl (wsO B K n h') H := by
  intro k q hk
  obtain ⟨hl, rfl⟩ := wsO_inv hk
  have h1 := hP k _ (wsO_get hl)
  rcases hE k hl with e | ⟨N, f, g, e1, e2, e3⟩ | ⟨N, f, g, e1, e2, e3⟩
  · rw [← e]
    exact h1
  · rw [e1] at h1
    rw [e2]
    have h2 : H[B + k]? = some (vp_cell (K 0) (N, .inl fun j => Int32.ofInt (f j))) := h1
    show H[B + k]? = some (vp_cell (K 0) (N, .inl fun j => Int32.ofInt (g j)))
    rw [h2, vp_cell_i, vp_cell_i]
    rw [arrV_congr (fun j hj => by rw [e3 j hj])]
  · rw [e1] at h1
    rw [e2]
    have h2 : H[B + k]? = some (vp_cell (K 1) (N, .inr (.inl fun j => Int64.ofInt (f j)))) := h1
    show H[B + k]? = some (vp_cell (K 1) (N, .inr (.inl fun j => Int64.ofInt (g j))))
    rw [h2, vp_cell_l, vp_cell_l]
    rw [arrV_congr (fun j hj => by rw [e3 j hj])]
theorem q_norm {M : MD} {d mc ms : Nat} {F : FT} {k u pc : Nat} {L : List (Option PV)} {S : List PV} {a : Bool} {n : Nat} {h : PH} (h' : PH) (hE : ∀ k, k < n → CEq (h k) (h' k)) (kk : QW M d mc ms F k u pc L S a n h') : QW M d mc ms F k u pc L S a n h := by
  intro p l e R s m args below meth c D B K X H locs ls O Hl HP Hs HS
  exact kk p l e R s m args below meth c D B K X H locs ls O Hl (HP_norm HP hE) Hs HS
/-- an int row is told anew: g in the place of f -/
theorem q_row {M : MD} {d mc ms : Nat} {F : FT} {k u pc : Nat} {L : List (Option PV)} {S : List PV} {a : Bool} {n : Nat} {h : PH} {o N : Nat} {f : Nat → Int} (hA : At1 n h o (cI N f)) (g : Nat → Int) (hg : ∀ j, j < N → f j = g j) (kk : ∀ h', h' = hp h o (cI N g) → QW M d mc ms F k u pc L S a n h') : QW M d mc ms F k u pc L S a n h := by
  refine q_norm (hp h o (cI N g)) (fun k hk => ?_) (kk _ rfl)
  by_cases q : k = o
  · subst q
    rw [hp_eq, hA.2]
    exact CEq.i hg
  · rw [hp_ne q]
    exact Or.inl rfl
theorem hp_hp {h h1 h2 : PH} {o : Nat} {c c' : PC} (e1 : h1 = hp h o c) (e2 : h2 = hp h1 o c') : h2 = hp h o c' := by
  rw [e2, e1]
  funext j
  unfold hp
  split <;> rfl
theorem cpz_lt {f g : Nat → Int} {q j : Nat} (h : j < q) : cpz f g 0 0 q j = f j := by
  unfold cpz
  rw [if_pos (by omega)]
  congr 1
  omega
/-- System.arraycopy over the whole of the target -/
theorem r_copyA {M : MD} {d mc ms : Nat} {F : FT} {k u pc pc' : Nat} {L : List (Option PV)} {S : List PV} {n : Nat} {h : PH} {i : Nat} {o1 o2 N1 N2 : Nat} {f g : Nat → Int} {z : Int} (hL : JCk M.1 i) (hdg : decode M.2.2.1 pc = .ok (.invokestatic i, 3)) (hA1 : At1 n h o1 (cI N1 f)) (hA2 : At1 n h o2 (cI N2 g)) (hz : z = (N2 : Int)) (h1 : N2 ≤ N1) (h3 : N2 ≤ 2147483647) (hd : 1 ≤ d) (hsum : catS S ≤ 8) (hq : pc + 3 = pc') (kk : ∀ h', h' = hp h o2 (cI N2 f) → QW M d mc ms F k u pc' L S false n h') : QW M d mc ms F k u pc L (vI z :: vI 0 :: vR o2 :: vI 0 :: vR o1 :: S) false n h := by
  refine r_copy hL hdg hA1 hA2 hz h1 (Nat.le_refl _) h3 hd hsum hq (fun h1 e1 => ?_)
  exact q_row (hA2.put e1) f (fun j hj => cpz_lt hj) (fun h2 e2 => kk h2 (hp_hp e1 e2))
