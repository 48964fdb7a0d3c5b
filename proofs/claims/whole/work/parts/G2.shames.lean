/-! A text of the law: what it says -/
abbrev CO : Type := List (Nat × Int32)
abbrev RS : Type := Nat ⊕ (Nat × CO)
def pre (c : CO) (r : RS) : RS := match r with
  | .inl e => .inl e
  | .inr x => .inr (x.1, c ++ x.2)
theorem pre_l (c : CO) (e : Nat) : pre c (.inl e) = .inl e := rfl
theorem pre_r (c : CO) (x : Nat × CO) : pre c (.inr x) = .inr (x.1, c ++ x.2) := rfl
theorem pre_pre (c d : CO) (r : RS) : pre c (pre d r) = pre (c ++ d) r := by
  cases r with
  | inl e => rfl
  | inr x => simp only [pre_r, List.append_assoc]
theorem pre_nil (r : RS) : pre [] r = r := by
  cases r with
  | inl e => rfl
  | inr x => rfl
theorem pre_sbd {α : Type} (c : CO) (x : Nat ⊕ α) (f : α → RS) : pre c (sbd x f) = sbd x fun a => pre c (f a) := by
  cases x <;> rfl
theorem sbd_sbd {α β γ : Type} (x : Nat ⊕ α) (f : α → Nat ⊕ β) (g : β → Nat ⊕ γ) : sbd (sbd x f) g = sbd x fun a => sbd (f a) g := by
  cases x <;> rfl
theorem sbd_pre (c : CO) (x : RS) (f : Nat × CO → RS) : sbd (pre c x) f = sbd x fun a => f (a.1, c ++ a.2) := by
  cases x <;> rfl
/-- types of codes, and how high the stack may be -/
def okC (N : Nat) : List Bool → CO → List Bool → Prop
  | ts, [], te => ts.length ≤ N ∧ te = ts
  | ts, (k, x) :: r, te => ts.length ≤ N ∧ k ≤ 13 ∧ (∃ j, j ≤ 999 ∧ x = nI j) ∧ ∃ t, tyL k ts = some t ∧ okC N t r te
theorem okC_app {N : Nat} : ∀ {a b : CO} {ts tm te : List Bool}, okC N ts a tm → okC N tm b te → okC N ts (a ++ b) te
  | [], b, ts, tm, te, h1, h2 => by
    obtain ⟨-, rfl⟩ := h1
    exact h2
  | (k, x) :: r, b, ts, tm, te, h1, h2 => by
    obtain ⟨p, q, z, t, e, h1⟩ := h1
    exact ⟨p, q, z, t, e, okC_app h1 h2⟩
theorem okC_len {N : Nat} : ∀ {a : CO} {ts te : List Bool}, okC N ts a te → ts.length ≤ N ∧ te.length ≤ N
  | [], ts, te, h => by
    obtain ⟨p, rfl⟩ := h
    exact ⟨p, p⟩
  | (k, x) :: r, ts, te, h => by
    obtain ⟨p, q, z, t, e, h⟩ := h
    exact ⟨p, (okC_len h).2⟩
theorem okC_one {N k : Nat} {x : Int32} {ts te : List Bool} (hk : k ≤ 13) (hx : ∃ j, j ≤ 999 ∧ x = nI j) (h1 : ts.length ≤ N) (h2 : te.length ≤ N) (e : tyL k ts = some te) : okC N ts [(k, x)] te := ⟨h1, hk, hx, te, e, h2, rfl⟩
def GD (l E : Nat) (t : Bool) (A : Nat → RS) : Prop := ∀ p x, p ≤ l → A p = .inr x → p < x.1 ∧ x.1 ≤ l ∧ x.2.length ≤ x.1 - p ∧ ∀ N ts, ts.length + E ≤ N → okC N ts x.2 (t :: ts)
/-- a chain: body { test body op } -/
def lpF (B : Nat → Int32) (l : Nat) (test : Nat → Option Nat) (body : Nat → RS) (op : Nat) : Nat → Nat → RS
  | 0, _ => .inl 0
  | f + 1, p => match test p with
    | some q => sbd (body q) fun x => pre (x.2 ++ [(op, 0)]) (lpF B l test body op f x.1)
    | none => .inr (sb B l p, [])
def lpP (B : Nat → Int32) (l : Nat) (test : Nat → Option Nat) (body : Nat → RS) (op : Nat) (p : Nat) : RS := lpF B l test body op (l + 1 - p) p
def chn (B : Nat → Int32) (l : Nat) (test : Nat → Option Nat) (body : Nat → RS) (op : Nat) (p : Nat) : RS := sbd (body p) fun x => pre x.2 (lpP B l test body op x.1)
def TG (l : Nat) (test : Nat → Option Nat) : Prop := ∀ p q, p ≤ l → test p = some q → p < q ∧ q ≤ l
def AV (l : Nat) (A : Nat → RS) : Prop := ∀ p x, p ≤ l → A p = .inr x → p < x.1 ∧ x.1 ≤ l
section Chain
variable {B : Nat → Int32} {l : Nat} {test : Nat → Option Nat} {body : Nat → RS} {op : Nat}
theorem lpF_st (T : TG l test) (A : AV l body) : ∀ f f' p, p ≤ l → l < f + p → l < f' + p → lpF B l test body op f p = lpF B l test body op f' p
  | 0, f', p, h1, h2, h3 => by omega
  | f + 1, 0, p, h1, h2, h3 => by omega
  | f + 1, f' + 1, p, h1, h2, h3 => by
    unfold lpF
    cases e : test p with
    | none => rfl
    | some q =>
      obtain ⟨q1, q2⟩ := T p q h1 e
      simp only
      cases e2 : body q with
      | inl z => rfl
      | inr x =>
        obtain ⟨x1, x2⟩ := A q x q2 e2
        simp only [sbd_r]
        rw [lpF_st T A f f' x.1 x2 (by omega) (by omega)]
theorem lpP_eq (T : TG l test) (A : AV l body) {p : Nat} (hp : p ≤ l) : lpP B l test body op p = match test p with
    | some q => sbd (body q) fun x => pre (x.2 ++ [(op, 0)]) (lpP B l test body op x.1)
    | none => .inr (sb B l p, []) := by
  unfold lpP
  rw [show l + 1 - p = (l - p) + 1 by omega]
  conv => lhs; unfold lpF
  cases e : test p with
  | none => rfl
  | some q =>
    obtain ⟨q1, q2⟩ := T p q hp e
    simp only
    cases e2 : body q with
    | inl z => rfl
    | inr x =>
      obtain ⟨x1, x2⟩ := A q x q2 e2
      simp only [sbd_r]
      rw [lpF_st T A (l - p) (l + 1 - x.1) x.1 x2 (by omega) (by omega)]
theorem lpF_ok {E : Nat} {t : Bool} (T : TG l test) (G : GD l E t body) (ho : op ≤ 13) (hy : ∀ ts, tyL op (t :: t :: ts) = some (t :: ts)) : ∀ f p x, p ≤ l → lpF B l test body op f p = .inr x → p ≤ x.1 ∧ x.1 ≤ l ∧ x.2.length ≤ x.1 - p ∧ ∀ N ts, ts.length + (E + 1) ≤ N → okC N (t :: ts) x.2 (t :: ts)
  | 0, p, x, h1, h => by cases h
  | f + 1, p, x, h1, h => by
    unfold lpF at h
    cases e : test p with
    | none =>
      rw [e] at h
      cases h
      exact ⟨sb_ge _ _ _, sb_le h1, Nat.zero_le _, fun N ts hN => ⟨by simp only [List.length_cons]; omega, rfl⟩⟩
    | some q =>
      rw [e] at h
      obtain ⟨q1, q2⟩ := T p q h1 e
      obtain ⟨y, e2, h⟩ := sbd_ok (x := body q) h
      obtain ⟨y1, y2, y3, y4⟩ := G q y q2 e2
      cases e3 : lpF B l test body op f y.1 with
      | inl z => rw [e3] at h; cases h
      | inr w =>
        rw [e3] at h
        cases h
        obtain ⟨w1, w2, w3, w4⟩ := lpF_ok T G ho hy f y.1 w y2 e3
        refine ⟨by simp only; omega, w2, by simp only [List.length_append, List.length_cons, List.length_nil]; omega, fun N ts hN => ?_⟩
        have a1 := y4 N (t :: ts) (by simp only [List.length_cons]; omega)
        have a2 := (okC_len a1).2
        simp only [List.length_cons] at a2
        exact okC_app (okC_app a1 (okC_one ho ⟨0, by omega, rfl⟩ (by simp only [List.length_cons]; omega) (by simp only [List.length_cons]; omega) (hy ts))) (w4 N ts hN)
theorem GD.av {E : Nat} {t : Bool} (G : GD l E t body) : AV l body := fun p x h1 h2 => ⟨(G p x h1 h2).1, (G p x h1 h2).2.1⟩
theorem chn_ok {E : Nat} {t : Bool} (T : TG l test) (G : GD l E t body) (ho : op ≤ 13) (hy : ∀ ts, tyL op (t :: t :: ts) = some (t :: ts)) : GD l (E + 1) t (chn B l test body op) := by
  intro p x h1 h
  obtain ⟨y, e2, h⟩ := sbd_ok h
  obtain ⟨y1, y2, y3, y4⟩ := G p y h1 e2
  cases e3 : lpP B l test body op y.1 with
  | inl z => rw [e3] at h; cases h
  | inr w =>
    rw [e3] at h
    cases h
    obtain ⟨w1, w2, w3, w4⟩ := lpF_ok T G ho hy _ y.1 w y2 e3
    refine ⟨by simp only; omega, w2, by simp only [List.length_append]; omega, fun N ts hN => ?_⟩
    exact okC_app (y4 N ts (by omega)) (w4 N ts hN)
end Chain
def w_hide : List Nat := [104, 105, 100, 101]
def w_show : List Nat := [115, 104, 111, 119]
def w_fine : List Nat := [102, 105, 110, 101]
def w_if : List Nat := [105, 102]
def w_not : List Nat := [110, 111, 116]
def w_and : List Nat := [97, 110, 100]
def w_or : List Nat := [111, 114]
def w_cracks : List Nat := [99, 114, 97, 99, 107, 115]
def w_hour : List Nat := [104, 111, 117, 114]
def w_light : List Nat := [108, 105, 103, 104, 116]
def w_load : List Nat := [108, 111, 97, 100]
theorem l_hide : low w_hide := by unfold low; decide
theorem l_show : low w_show := by unfold low; decide
theorem l_fine : low w_fine := by unfold low; decide
theorem l_if : low w_if := by unfold low; decide
theorem l_not : low w_not := by unfold low; decide
theorem l_and : low w_and := by unfold low; decide
theorem l_or : low w_or := by unfold low; decide
theorem l_cracks : low w_cracks := by unfold low; decide
theorem l_hour : low w_hour := by unfold low; decide
theorem l_light : low w_light := by unfold low; decide
theorem l_load : low w_load := by unfold low; decide
def fw (k : Nat) : List Nat := if k = 0 then w_thick else if k = 1 then w_sand else if k = 2 then w_cracks else if k = 3 then w_hour else if k = 4 then w_light else if k = 5 then w_owner else w_load
theorem l_fw (k : Nat) : low (fw k) := by
  unfold fw
  repeat' split
  · exact l_thick
  · exact l_sand
  · exact l_cracks
  · exact l_hour
  · exact l_light
  · exact l_owner
  · exact l_load
section SpecL
variable (B : Nat → Int32) (l : Nat)
def fcS (q : Nat) : Option Nat := fd (fun k => wd B l q (fw k)) 7
def prt (p : Nat) : RS := match fcS B l (sb B l p) with
  | some k => .inr (sb B l p + (fw k).length, [(k, 0)])
  | none => sbd (nmS B l p 0 999) fun x => .inr (x.2, [(7, x.1)])
def tPl (p : Nat) : Option Nat := if sg B l p 43 = true then some (sb B l p + 1) else none
def tWd (s : List Nat) (p : Nat) : Option Nat := if wd B l (sb B l p) s = true then some (sb B l p + s.length) else none
def suS : Nat → RS := chn B l (tPl B l) (prt B l) 8
def alS (A : Nat → RS) : Nat → RS := chn B l (tWd B l w_and) A 12
def cnS (A : Nat → RS) : Nat → RS := chn B l (tWd B l w_or) (alS B l A) 13
def atS (o : Option (Nat → RS)) (p : Nat) : RS :=
  if wd B l (sb B l p) w_not = true then (match o with
    | none => .inl (sb B l p)
    | some A => sbd (A (sb B l p + 3)) fun x => .inr (x.1, x.2 ++ [(11, 0)]))
  else if sg B l p 40 = true then (match o with
    | none => .inl (sb B l p)
    | some A => sbd (cnS B l A (sb B l p + 1)) fun x => if sg B l x.1 41 = true then .inr (sb B l x.1 + 1, x.2) else .inl (sb B l x.1))
  else sbd (suS B l (sb B l p)) fun x =>
    if sg B l x.1 60 = true then sbd (suS B l (sb B l x.1 + 1)) fun y => .inr (y.1, x.2 ++ (y.2 ++ [(9, 0)]))
    else if sg B l x.1 62 = true then sbd (suS B l (sb B l x.1 + 1)) fun y => .inr (y.1, x.2 ++ (y.2 ++ [(10, 0)]))
    else .inl (sb B l x.1)
def lev : Nat → Nat → RS
  | 0 => atS B l none
  | r + 1 => atS B l (some (lev r))
end SpecL
section SpecG
variable {B : Nat → Int32} {l : Nat}
theorem sg_lt {p : Nat} {c : Int32} (h : sg B l p c = true) : sb B l p < l ∧ B (sb B l p) = c := by
  unfold sg at h
  simp only [Bool.and_eq_true, decide_eq_true_eq] at h
  exact h
theorem tPl_g : TG l (tPl B l) := fun p q h1 h => by
  unfold tPl at h
  split at h
  · rename_i z
    cases h
    have := sg_lt z
    have := sb_ge B l p
    omega
  · cases h
theorem tWd_g {s : List Nat} (L : low s) : TG l (tWd B l s) := fun p q h1 h => by
  unfold tWd at h
  split at h
  · rename_i z
    cases h
    have := (wd_le L z).2
    have := sb_ge B l p
    have := L.1
    omega
  · cases h
theorem prt_ok : GD l 1 false (prt B l) := fun p x h1 h => by
  have sg := sb_ge B l p
  unfold prt at h
  cases e : fcS B l (sb B l p) with
  | some k =>
    rw [e] at h
    cases h
    obtain ⟨k7, wk, -⟩ := fd_some e
    have a1 := (wd_le (l_fw k) wk).2
    have a2 := (l_fw k).1
    refine ⟨by simp only; omega, a1, by simp only [List.length_cons, List.length_nil]; omega, fun N ts hN => ?_⟩
    exact okC_one (by omega) ⟨0, by omega, rfl⟩ (by omega) (by simp only [List.length_cons]; omega) (if_pos (by omega))
  | none =>
    rw [e] at h
    obtain ⟨y, e2, h⟩ := sbd_ok (x := nmS B l p 0 999) h
    cases h
    obtain ⟨a1, a2, a3, a4⟩ := nmS_bd e2
    refine ⟨a1, a2, by simp only [List.length_cons, List.length_nil]; omega, fun N ts hN => ?_⟩
    exact okC_one (by omega) a4 (by omega) (by simp only [List.length_cons]; omega) (if_pos (by omega))
theorem suS_ok : GD l 2 false (suS B l) := chn_ok tPl_g prt_ok (by omega) (fun ts => rfl)
theorem alS_ok {E : Nat} {A : Nat → RS} (G : GD l E true A) : GD l (E + 1) true (alS B l A) := chn_ok (tWd_g l_and) G (by omega) (fun ts => rfl)
theorem cnS_ok {E : Nat} {A : Nat → RS} (G : GD l E true A) : GD l (E + 2) true (cnS B l A) := chn_ok (tWd_g l_or) (alS_ok G) (by omega) (fun ts => rfl)
theorem atS_ok {o : Option (Nat → RS)} {E : Nat} (hE : 1 ≤ E) (G : ∀ A, o = some A → GD l E true A) : GD l (E + 2) true (atS B l o) := fun p x h1 h => by
  have s1 := sb_ge B l p
  have s2 := sb_le (B := B) h1
  unfold atS at h
  split at h
  · rename_i z
    have w := (wd_le l_not z).2
    rw [show w_not.length = 3 from rfl] at w
    cases o with
    | none => cases h
    | some A =>
      obtain ⟨y, e2, h⟩ := sbd_ok (x := A (sb B l p + 3)) h
      cases h
      obtain ⟨y1, y2, y3, y4⟩ := G A rfl _ y w e2
      refine ⟨by simp only; omega, y2, by simp only [List.length_append, List.length_cons, List.length_nil]; omega, fun N ts hN => ?_⟩
      exact okC_app (y4 N ts (by omega)) (okC_one (by omega) ⟨0, by omega, rfl⟩ (by simp only [List.length_cons]; omega) (by simp only [List.length_cons]; omega) rfl)
  · split at h
    · rename_i z
      have w := (sg_lt z).1
      cases o with
      | none => cases h
      | some A =>
        obtain ⟨y, e2, h⟩ := sbd_ok (x := cnS B l A (sb B l p + 1)) h
        obtain ⟨y1, y2, y3, y4⟩ := cnS_ok (G A rfl) _ y (by omega) e2
        split at h
        · rename_i z2
          cases h
          have w2 := (sg_lt z2).1
          have s3 := sb_ge B l y.1
          refine ⟨by simp only; omega, by simp only; omega, by simp only; omega, fun N ts hN => y4 N ts (by omega)⟩
        · cases h
    · obtain ⟨y, e2, h⟩ := sbd_ok (x := suS B l (sb B l p)) h
      obtain ⟨y1, y2, y3, y4⟩ := suS_ok _ y s2 e2
      have s3 := sb_ge B l y.1
      have fin : ∀ k, (k = 9 ∨ k = 10) → sb B l y.1 < l → (sbd (suS B l (sb B l y.1 + 1)) fun w => (.inr (w.1, y.2 ++ (w.2 ++ [(k, 0)])) : RS)) = .inr x → p < x.1 ∧ x.1 ≤ l ∧ x.2.length ≤ x.1 - p ∧ ∀ N ts, ts.length + (E + 2) ≤ N → okC N ts x.2 (true :: ts) := by
        intro k hk w h
        obtain ⟨v, e3, h⟩ := sbd_ok h
        cases h
        obtain ⟨v1, v2, v3, v4⟩ := suS_ok _ v (by omega) e3
        refine ⟨by simp only; omega, v2, by simp only [List.length_append, List.length_cons, List.length_nil]; omega, fun N ts hN => ?_⟩
        exact okC_app (y4 N ts (by omega)) (okC_app (v4 N (false :: ts) (by simp only [List.length_cons]; omega)) (okC_one (by omega) ⟨0, by omega, rfl⟩ (by simp only [List.length_cons]; omega) (by simp only [List.length_cons]; omega) (by rcases hk with rfl | rfl <;> rfl)))
      split at h
      · rename_i z
        exact fin 9 (.inl rfl) (sg_lt z).1 h
      · split at h
        · rename_i z
          exact fin 10 (.inr rfl) (sg_lt z).1 h
        · cases h
theorem lev_ok : ∀ r, GD l (3 + 2 * r) true (lev B l r)
  | 0 => fun p x h1 h => atS_ok (E := 1) (by omega) (fun A q => by cases q) p x h1 h
  | r + 1 => fun p x h1 h => by
    have := atS_ok (B := B) (E := 3 + 2 * r) (by omega) (fun A q => by cases q; exact lev_ok r) p x h1 h
    rw [show 3 + 2 * (r + 1) = 3 + 2 * r + 2 by omega]
    exact this
theorem prt_sb (p : Nat) : prt B l (sb B l p) = prt B l p := by
  unfold prt nmS num
  rw [sb_sb]
end SpecG
