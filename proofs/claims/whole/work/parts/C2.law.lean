/-! Conditions of the law: codes on a stack; steps 0..6 facts, 7 a number, 8 +, 9 <, 10 >, 11 not, 12 and, 13 or -/
def jn (k : Nat) (a b : Int32) : Int32 := if k = 8 then a + b else if k = 9 then (if b ≤ a then 0 else 1) else if k = 10 then (if a ≤ b then 0 else 1) else if k = 12 then a &&& b else a ||| b
def evL (g : Nat → Int32) (k : Nat) (x : Int32) (vs : List Int32) : List Int32 := if k < 7 then g k :: vs else if k = 7 then x :: vs else if k = 11 then (1 - vs.headD 0) :: vs.tail else jn k (vs.tail.headD 0) (vs.headD 0) :: vs.tail.tail
def ty2 (k : Nat) (y x : Bool) (r : List Bool) : Option (List Bool) := if k = 8 then (if x = false ∧ y = false then some (false :: r) else none) else if k = 9 ∨ k = 10 then (if x = false ∧ y = false then some (true :: r) else none) else if k = 12 ∨ k = 13 then (if x = true ∧ y = true then some (true :: r) else none) else none
def tyL (k : Nat) : List Bool → Option (List Bool) := fun ts => if k ≤ 7 then some (false :: ts) else if k = 11 then (match ts with
  | true :: r => some (true :: r)
  | _ => none) else match ts with
  | y :: x :: r => ty2 k y x r
  | _ => none
def AR (f : Nat → Int32) : List Int32 → Prop
  | [] => True
  | v :: r => f r.length = v ∧ AR f r
def TV : List Bool → List Int32 → Prop
  | [], [] => True
  | t :: ts, v :: vs => (t = true → v = 0 ∨ v = 1) ∧ TV ts vs
  | _, _ => False
theorem AR_hi {f : Nat → Int32} {i : Nat} {x : Int32} : ∀ {vs : List Int32}, AR f vs → vs.length ≤ i → AR (upd f i x) vs
  | [], _, _ => trivial
  | v :: r, h, hi => by
    simp only [List.length_cons] at hi
    exact ⟨(pk_un (by omega)).trans h.1, AR_hi h.2 (by omega)⟩
theorem AR_p {f : Nat → Int32} {x : Int32} {vs : List Int32} (h : AR f vs) : AR (upd f vs.length x) (x :: vs) := ⟨pk_us, AR_hi h (Nat.le_refl _)⟩
theorem TV_len : ∀ {ts : List Bool} {vs : List Int32}, TV ts vs → vs.length = ts.length
  | [], [], _ => rfl
  | t :: ts, v :: vs, h => by simp only [List.length_cons]; rw [TV_len h.2]
  | [], _ :: _, h => absurd h (by simp [TV])
  | _ :: _, [], h => absurd h (by simp [TV])
/-- how the class writes a step -/
def cc (k : Nat) (x : Int32) : Int32 := if k < 7 then nI (1000 + k) else if k = 7 then x else if k = 8 then 2000 else if k = 9 then 2001 else if k = 10 then 2002 else if k = 11 then 2005 else if k = 12 then 2003 else 2004
theorem b01 {a : Int32} (h : a = 0 ∨ a = 1) : (1 : Int32) - a = 0 ∨ (1 : Int32) - a = 1 := by rcases h with rfl | rfl <;> decide
theorem and01 {a b : Int32} (ha : a = 0 ∨ a = 1) (hb : b = 0 ∨ b = 1) : a &&& b = (if a + b = 2 then 1 else 0) ∧ (a &&& b = 0 ∨ a &&& b = 1) := by rcases ha with rfl | rfl <;> rcases hb with rfl | rfl <;> decide
theorem or01 {a b : Int32} (ha : a = 0 ∨ a = 1) (hb : b = 0 ∨ b = 1) : a ||| b = (if a + b ≤ 0 then 0 else 1) ∧ (a ||| b = 0 ∨ a ||| b = 1) := by rcases ha with rfl | rfl <;> rcases hb with rfl | rfl <;> decide
/-- what a step may meet: it pushes, turns the top, or joins two -/
theorem ty_cases {k : Nat} {ts ts' : List Bool} {vs : List Int32} (hk : k ≤ 13) (h : tyL k ts = some ts') (T : TV ts vs) : (k ≤ 7 ∧ ts' = false :: ts) ∨ (k = 11 ∧ ∃ v r, vs = v :: r ∧ (v = 0 ∨ v = 1) ∧ ts' = ts) ∨ (7 < k ∧ k ≠ 11 ∧ ∃ b a r tr, vs = b :: a :: r ∧ TV tr r ∧ ts.length = tr.length + 2 ∧ ((k = 8 ∧ ts' = false :: tr) ∨ ((k = 9 ∨ k = 10) ∧ ts' = true :: tr) ∨ ((k = 12 ∨ k = 13) ∧ ts' = true :: tr ∧ (a = 0 ∨ a = 1) ∧ (b = 0 ∨ b = 1)))) := by
  unfold tyL at h
  by_cases h7 : k ≤ 7
  · rw [if_pos h7] at h
    exact .inl ⟨h7, (Option.some.inj h).symm⟩
  · rw [if_neg h7] at h
    by_cases h11 : k = 11
    · rw [if_pos h11] at h
      match ts, vs, T, h with
      | true :: r, v :: w, T, h => exact .inr (.inl ⟨h11, v, w, rfl, T.1 rfl, (Option.some.inj h).symm⟩)
      | false :: r, v :: w, T, h => cases h
      | [], [], T, h => cases h
    · rw [if_neg h11] at h
      match ts, vs, T, h with
      | y :: x :: r, b :: a :: w, T, h =>
        refine .inr (.inr ⟨by omega, h11, b, a, w, r, rfl, T.2.2, rfl, ?_⟩)
        have h : ty2 k y x r = some ts' := h
        unfold ty2 at h
        by_cases h8 : k = 8
        · rw [if_pos h8] at h
          split at h
          · exact .inl ⟨h8, (Option.some.inj h).symm⟩
          · cases h
        · rw [if_neg h8] at h
          by_cases h9 : k = 9 ∨ k = 10
          · rw [if_pos h9] at h
            split at h
            · exact .inr (.inl ⟨h9, (Option.some.inj h).symm⟩)
            · cases h
          · rw [if_neg h9] at h
            split at h
            · rename_i h12
              split at h
              · rename_i q
                exact .inr (.inr ⟨h12, (Option.some.inj h).symm, T.2.1 q.1, T.1 q.2⟩)
              · cases h
            · cases h
      | [_], [_], T, h => cases h
      | [], [], T, h => cases h
theorem ev_TV {g : Nat → Int32} {k : Nat} {x : Int32} {ts ts' : List Bool} {vs : List Int32} (hk : k ≤ 13) (h : tyL k ts = some ts') (T : TV ts vs) : TV ts' (evL g k x vs) := by
  rcases ty_cases hk h T with ⟨h7, rfl⟩ | ⟨rfl, v, r, rfl, hv, he⟩ | ⟨h8, h11, b, a, r, tr, rfl, hr, -, q⟩
  · unfold evL
    by_cases z : k < 7
    · rw [if_pos z]; exact ⟨fun w => (by cases w), T⟩
    · rw [if_neg z, if_pos (by omega)]; exact ⟨fun w => (by cases w), T⟩
  · unfold evL
    rw [if_neg (by omega), if_neg (by omega), if_pos rfl]
    simp only [List.headD_cons, List.tail_cons]
    rw [he]
    match ts, T with
    | t :: ts, T => exact ⟨fun _ => b01 hv, T.2⟩
  · unfold evL
    rw [if_neg (by omega), if_neg (by omega), if_neg h11]
    simp only [List.headD_cons, List.tail_cons]
    rcases q with ⟨rfl, rfl⟩ | ⟨q, rfl⟩ | ⟨q, rfl, ha, hb⟩
    · exact ⟨fun w => (by cases w), hr⟩
    · refine ⟨fun _ => ?_, hr⟩
      unfold jn
      rcases q with rfl | rfl
      · rw [if_neg (by omega), if_pos rfl]; split <;> simp
      · rw [if_neg (by omega), if_neg (by omega), if_pos rfl]; split <;> simp
    · refine ⟨fun _ => ?_, hr⟩
      unfold jn
      rcases q with rfl | rfl
      · rw [if_neg (by omega), if_neg (by omega), if_neg (by omega), if_pos rfl]; exact (and01 ha hb).2
      · rw [if_neg (by omega), if_neg (by omega), if_neg (by omega), if_neg (by omega)]; exact (or01 ha hb).2
def oL (a : Nat) (n u : Int32) : mC := .inr (2, [.int n, .ref (a + 1), .ref (a + 2), .ref (a + 3), .ref (a + 4), .int u, .ref (a + 5), .ref (a + 6)])
theorem gL0 {h : mH} {a : Nat} {n u : Int32} (H : h.1[a]? = some (oL a n u)) : m_gf h a 2 0 = some (.int n) := by simp only [m_gf, H, oL, ↓reduceIte]; rfl
theorem pL0 {h : mH} {a : Nat} {n u : Int32} (H : h.1[a]? = some (oL a n u)) (x : Int32) : m_pf h a 2 0 (.int x) = some (h.1.set a (oL a x u), h.2) := by simp only [m_pf, H]; rfl
theorem gL1 {h : mH} {a : Nat} {n u : Int32} (H : h.1[a]? = some (oL a n u)) : m_gf h a 2 1 = some (.ref (a + 1)) := by simp only [m_gf, H, oL, ↓reduceIte]; rfl
theorem gL2 {h : mH} {a : Nat} {n u : Int32} (H : h.1[a]? = some (oL a n u)) : m_gf h a 2 2 = some (.ref (a + 2)) := by simp only [m_gf, H, oL, ↓reduceIte]; rfl
theorem gL3 {h : mH} {a : Nat} {n u : Int32} (H : h.1[a]? = some (oL a n u)) : m_gf h a 2 3 = some (.ref (a + 3)) := by simp only [m_gf, H, oL, ↓reduceIte]; rfl
theorem gL4 {h : mH} {a : Nat} {n u : Int32} (H : h.1[a]? = some (oL a n u)) : m_gf h a 2 4 = some (.ref (a + 4)) := by simp only [m_gf, H, oL, ↓reduceIte]; rfl
theorem gL5 {h : mH} {a : Nat} {n u : Int32} (H : h.1[a]? = some (oL a n u)) : m_gf h a 2 5 = some (.int u) := by simp only [m_gf, H, oL, ↓reduceIte]; rfl
theorem pL5 {h : mH} {a : Nat} {n u : Int32} (H : h.1[a]? = some (oL a n u)) (x : Int32) : m_pf h a 2 5 (.int x) = some (h.1.set a (oL a n x), h.2) := by simp only [m_pf, H]; rfl
theorem gL6 {h : mH} {a : Nat} {n u : Int32} (H : h.1[a]? = some (oL a n u)) : m_gf h a 2 6 = some (.ref (a + 5)) := by simp only [m_gf, H, oL, ↓reduceIte]; rfl
theorem gL7 {h : mH} {a : Nat} {n u : Int32} (H : h.1[a]? = some (oL a n u)) : m_gf h a 2 7 = some (.ref (a + 6)) := by simp only [m_gf, H, oL, ↓reduceIte]; rfl
theorem L_isc {h : mH} {a : Nat} {n u : Int32} (e : h.1[a]? = some (oL a n u)) : m_isc h a 2 = true := by simp only [m_isc, e, oL]; rfl
def hS (h : mH) (a : Nat) (S : Nat → Int32) : mH := (h.1.set (a + 6) (aI 20 S), h.2)
section LawC
variable {h : mH} {a : Nat}
theorem join_ev (O : mO) (d : Nat) (h : mH) {k : Nat} (hk : k = 8 ∨ k = 9 ∨ k = 10 ∨ k = 12 ∨ k = 13) (x y z : Int32) : ev O (d) 50 0 [.int (cc k z), .int x, .int y] [] h = some (.inl (some (.int (jn k x y))), h) := by
  unfold jn
  rcases hk with rfl | rfl | rfl | rfl | rfl
  · have c : cc 8 z = 2000 := rfl
    rw [c]
    simp only [e_50_0, e_50_1, e_50_32, e_50_33, e_50_34, e_50_35, e_50_36, e_50_37, e_50_38, e_50_41, e_50_42, e_50_45, e_50_46, e_50_47, e_50_48, e_50_49, e_50_52, e_50_53, e_50_56, e_50_57, e_50_58, e_50_59, e_50_60, e_50_61, e_50_62, e_50_63, e_50_64, e_50_65, Option.bind_some, Option.bind_none, m_kt, m_kn, Option.toList_some, Option.toList_none, List.nil_append, List.cons_append, List.append_nil, ltn, ite_not, ↓reduceIte, true_or, or_true, nP1, oI_s, oI_n, bI_f, bI_t, i1_0, i0_0, Bool.false_eq_true, not_true_eq_false, not_false_eq_true, (show ((2000 : Int32).toInt < 2000) = False by decide), (show ((2000 : Int32).toInt - 2000).toNat = 0 by decide), (show List.getD [32, 36, 47, 58] 0 62 = 32 from rfl), (show List.getD [32, 36, 47, 58] 1 62 = 36 from rfl), (show List.getD [32, 36, 47, 58] 2 62 = 47 from rfl), (show List.getD [32, 36, 47, 58] 3 62 = 58 from rfl)]
  · have c : cc 9 z = 2001 := rfl
    rw [c]
    by_cases q : y ≤ x <;> simp only [e_50_0, e_50_1, e_50_32, e_50_33, e_50_34, e_50_35, e_50_36, e_50_37, e_50_38, e_50_41, e_50_42, e_50_45, e_50_46, e_50_47, e_50_48, e_50_49, e_50_52, e_50_53, e_50_56, e_50_57, e_50_58, e_50_59, e_50_60, e_50_61, e_50_62, e_50_63, e_50_64, e_50_65, Option.bind_some, Option.bind_none, m_kt, m_kn, Option.toList_some, Option.toList_none, List.nil_append, List.cons_append, List.append_nil, ltn, ite_not, ↓reduceIte, true_or, or_true, nP1, oI_s, oI_n, bI_f, bI_t, i1_0, i0_0, Bool.false_eq_true, not_true_eq_false, not_false_eq_true, (show ((2001 : Int32).toInt < 2000) = False by decide), (show ((2001 : Int32).toInt - 2000).toNat = 1 by decide), (show List.getD [32, 36, 47, 58] 0 62 = 32 from rfl), (show List.getD [32, 36, 47, 58] 1 62 = 36 from rfl), (show List.getD [32, 36, 47, 58] 2 62 = 47 from rfl), (show List.getD [32, 36, 47, 58] 3 62 = 58 from rfl), q, (show ¬ (9 : Nat) = 8 by decide)]
  · have c : cc 10 z = 2002 := rfl
    rw [c]
    by_cases q : x ≤ y <;> simp only [e_50_0, e_50_1, e_50_32, e_50_33, e_50_34, e_50_35, e_50_36, e_50_37, e_50_38, e_50_41, e_50_42, e_50_45, e_50_46, e_50_47, e_50_48, e_50_49, e_50_52, e_50_53, e_50_56, e_50_57, e_50_58, e_50_59, e_50_60, e_50_61, e_50_62, e_50_63, e_50_64, e_50_65, Option.bind_some, Option.bind_none, m_kt, m_kn, Option.toList_some, Option.toList_none, List.nil_append, List.cons_append, List.append_nil, ltn, ite_not, ↓reduceIte, true_or, or_true, nP1, oI_s, oI_n, bI_f, bI_t, i1_0, i0_0, Bool.false_eq_true, not_true_eq_false, not_false_eq_true, (show ((2002 : Int32).toInt < 2000) = False by decide), (show ((2002 : Int32).toInt - 2000).toNat = 2 by decide), (show List.getD [32, 36, 47, 58] 0 62 = 32 from rfl), (show List.getD [32, 36, 47, 58] 1 62 = 36 from rfl), (show List.getD [32, 36, 47, 58] 2 62 = 47 from rfl), (show List.getD [32, 36, 47, 58] 3 62 = 58 from rfl), q, (show ¬ (10 : Nat) = 8 by decide), (show ¬ (10 : Nat) = 9 by decide)]
  · have c : cc 12 z = 2003 := rfl
    rw [c]
    simp only [e_50_0, e_50_1, e_50_32, e_50_33, e_50_34, e_50_35, e_50_36, e_50_37, e_50_38, e_50_41, e_50_42, e_50_45, e_50_46, e_50_47, e_50_48, e_50_49, e_50_52, e_50_53, e_50_56, e_50_57, e_50_58, e_50_59, e_50_60, e_50_61, e_50_62, e_50_63, e_50_64, e_50_65, Option.bind_some, Option.bind_none, m_kt, m_kn, Option.toList_some, Option.toList_none, List.nil_append, List.cons_append, List.append_nil, ltn, ite_not, ↓reduceIte, true_or, or_true, nP1, oI_s, oI_n, bI_f, bI_t, i1_0, i0_0, Bool.false_eq_true, not_true_eq_false, not_false_eq_true, (show ((2003 : Int32).toInt < 2000) = False by decide), (show ((2003 : Int32).toInt - 2000).toNat = 3 by decide), (show List.getD [32, 36, 47, 58] 0 62 = 32 from rfl), (show List.getD [32, 36, 47, 58] 1 62 = 36 from rfl), (show List.getD [32, 36, 47, 58] 2 62 = 47 from rfl), (show List.getD [32, 36, 47, 58] 3 62 = 58 from rfl), (show ¬ (12 : Nat) = 8 by decide), (show ¬ (12 : Nat) = 9 by decide), (show ¬ (12 : Nat) = 10 by decide)]
  · have c : cc 13 z = 2004 := rfl
    rw [c]
    simp only [e_50_0, e_50_1, e_50_32, e_50_33, e_50_34, e_50_35, e_50_36, e_50_37, e_50_38, e_50_41, e_50_42, e_50_45, e_50_46, e_50_47, e_50_48, e_50_49, e_50_52, e_50_53, e_50_56, e_50_57, e_50_58, e_50_59, e_50_60, e_50_61, e_50_62, e_50_63, e_50_64, e_50_65, Option.bind_some, Option.bind_none, m_kt, m_kn, Option.toList_some, Option.toList_none, List.nil_append, List.cons_append, List.append_nil, ltn, ite_not, ↓reduceIte, true_or, or_true, nP1, oI_s, oI_n, bI_f, bI_t, i1_0, i0_0, Bool.false_eq_true, not_true_eq_false, not_false_eq_true, (show ((2004 : Int32).toInt < 2000) = False by decide), (show List.getD [32, 36, 47, 58] ((2004 : Int32).toInt - 2000).toNat 62 = 62 by decide), (show ¬ (13 : Nat) = 8 by decide), (show ¬ (13 : Nat) = 9 by decide), (show ¬ (13 : Nat) = 10 by decide), (show ¬ (13 : Nat) = 12 by decide)]
theorem apply_ev (O : mO) (d : Nat) {n us : Int32} (e0 : h.1[a]? = some (oL a n us)) {G S0 : Nat → Int32} (e5 : h.1[a + 5]? = some (aI 7 G)) (e6 : h.1[a + 6]? = some (aI 20 S0)) {k : Nat} {x : Int32} {ts ts' : List Bool} {vs : List Int32} (hk : k ≤ 13) (hx : k = 7 → ∃ j, j ≤ 999 ∧ x = nI j) (ht : tyL k ts = some ts') (T : TV ts vs) (hl : vs.length < 20) (S : Nat → Int32) (A : AR S vs) : ∃ S', AR S' (evL G k x vs) ∧ ev O (d + 1) 49 0 [.ref a, .int (cc k x), .int (nI vs.length)] [] (hS h a S) = some (.inl (some (.int (nI (evL G k x vs).length))), hS h a S') := by
  have g0 : ∀ S, (hS h a S).1[a]? = some (oL a n us) := fun S => (hne (by omega)).trans e0
  have g5 : ∀ S, (hS h a S).1[a + 5]? = some (aI 7 G) := fun S => (hne (by omega)).trans e5
  have g6 : ∀ S, (hS h a S).1[a + 6]? = some (aI 20 S) := fun S => hget e6
  have s6 : ∀ S i v, i < 20 → m_si (hS h a S) (a + 6) (nI i) v = some (hS h a (upd S i v)) := fun S i v hi => by
    rw [si_n (g6 S) hi (by decide)]; unfold hS; rw [List.set_set]
  rcases ty_cases hk ht T with ⟨h7, -⟩ | ⟨rfl, v, r, rfl, hv, -⟩ | ⟨h8, h11, b, a', r, tr, rfl, hr, -, q⟩
  · have l20 : ¬ nI 20 ≤ nI vs.length := nI_ge hl (by omega)
    by_cases z : k < 7
    · have c1 : cc k x = nI (1000 + k) := if_pos z
      have c2 : ¬ (2000 : Int32) ≤ nI (1000 + k) := nI_ge (b := 2000) (by omega) (by omega)
      have c3 : (1000 : Int32) ≤ nI (1000 + k) := nI_le (a := 1000) (by omega) (by omega)
      have c4 : nI (1000 + k) - 1000 = nI k := by rw [show (1000 : Int32) = nI 1000 from rfl, pk_sub (by omega), Nat.add_sub_cancel_left]
      have ee : evL G k x vs = G k :: vs := if_pos z
      rw [ee, c1]
      refine ⟨_, AR_p A, ?_⟩
      simp only [e_49_0, e_49_1, e_49_4, e_49_7, e_49_8, e_49_9, e_49_12, e_49_13, e_49_16, e_49_17, e_49_20, e_49_21, e_49_22, e_49_25, e_49_28, e_49_29, e_49_32, e_49_33, e_49_36, e_49_37, e_49_40, e_49_41, e_49_42, e_49_43, e_49_44, e_49_45, e_49_46, e_49_47, e_49_48, e_49_49, e_49_52, e_49_53, e_49_56, e_49_57, e_49_58, e_49_59, e_49_62, e_49_65, e_49_66, e_49_67, e_49_70, e_49_71, e_49_74, e_49_75, e_49_76, e_49_77, e_49_78, e_49_79, e_49_82, e_49_83, e_49_84, e_49_85, e_49_86, e_49_87, e_49_88, e_49_89, e_49_90, e_49_91, e_49_92, e_49_95, e_49_96, e_49_99, e_49_100, e_49_101, e_49_102, e_49_103, e_49_104, e_49_107, e_49_108, e_49_109, e_49_110, e_49_111, e_49_112, e_49_115, e_49_116, e_49_117, e_49_118, e_49_119, e_49_122, e_49_123, e_49_124, e_49_125, e_49_126, Option.bind_some, Option.bind_none, m_kt, m_kn, Option.toList_some, Option.toList_none, List.nil_append, List.cons_append, List.append_nil, ltn, ite_not, ↓reduceIte, true_or, or_true, nP1, oI_s, oI_n, bI_f, bI_t, i1_0, i0_0, Bool.false_eq_true, not_true_eq_false, not_false_eq_true, c2, gL7 (g0 S), ln_i (g6 S), l20, c3, gL6 (g0 S), c4, ai_n (g5 S) z (by decide), s6 S _ _ hl, List.length_cons]
    · have z7 : k = 7 := by omega
      obtain ⟨j, hj, rfl⟩ := hx z7
      subst z7
      have c1 : cc 7 (nI j) = nI j := rfl
      have c2 : ¬ (2000 : Int32) ≤ nI j := nI_ge (b := 2000) (by omega) (by omega)
      have c3 : ¬ (1000 : Int32) ≤ nI j := nI_ge (b := 1000) (by omega) (by omega)
      have ee : evL G 7 (nI j) vs = nI j :: vs := rfl
      rw [ee, c1]
      refine ⟨_, AR_p A, ?_⟩
      simp only [e_49_0, e_49_1, e_49_4, e_49_7, e_49_8, e_49_9, e_49_12, e_49_13, e_49_16, e_49_17, e_49_20, e_49_21, e_49_22, e_49_25, e_49_28, e_49_29, e_49_32, e_49_33, e_49_36, e_49_37, e_49_40, e_49_41, e_49_42, e_49_43, e_49_44, e_49_45, e_49_46, e_49_47, e_49_48, e_49_49, e_49_52, e_49_53, e_49_56, e_49_57, e_49_58, e_49_59, e_49_62, e_49_65, e_49_66, e_49_67, e_49_70, e_49_71, e_49_74, e_49_75, e_49_76, e_49_77, e_49_78, e_49_79, e_49_82, e_49_83, e_49_84, e_49_85, e_49_86, e_49_87, e_49_88, e_49_89, e_49_90, e_49_91, e_49_92, e_49_95, e_49_96, e_49_99, e_49_100, e_49_101, e_49_102, e_49_103, e_49_104, e_49_107, e_49_108, e_49_109, e_49_110, e_49_111, e_49_112, e_49_115, e_49_116, e_49_117, e_49_118, e_49_119, e_49_122, e_49_123, e_49_124, e_49_125, e_49_126, Option.bind_some, Option.bind_none, m_kt, m_kn, Option.toList_some, Option.toList_none, List.nil_append, List.cons_append, List.append_nil, ltn, ite_not, ↓reduceIte, true_or, or_true, nP1, oI_s, oI_n, bI_f, bI_t, i1_0, i0_0, Bool.false_eq_true, not_true_eq_false, not_false_eq_true, c2, gL7 (g0 S), ln_i (g6 S), l20, c3, s6 S _ _ hl, List.length_cons]
  · have c1 : cc 11 x = 2005 := rfl
    have ee : evL G 11 x (v :: r) = (1 - v) :: r := rfl
    simp only [List.length_cons] at hl
    have l1 : ((1 : Int32) ≤ nI (r.length + 1)) := nI_le (a := 1) (by omega) (by omega)
    have l20 : nI (r.length + 1) ≤ nI 20 := nI_le (by omega) (by omega)
    have ga := ai_n (g6 S) (show r.length < 20 by omega) (by decide)
    rw [A.1] at ga
    rw [ee, c1]
    refine ⟨_, AR_p A.2, ?_⟩
    simp only [e_49_0, e_49_1, e_49_4, e_49_7, e_49_8, e_49_9, e_49_12, e_49_13, e_49_16, e_49_17, e_49_20, e_49_21, e_49_22, e_49_25, e_49_28, e_49_29, e_49_32, e_49_33, e_49_36, e_49_37, e_49_40, e_49_41, e_49_42, e_49_43, e_49_44, e_49_45, e_49_46, e_49_47, e_49_48, e_49_49, e_49_52, e_49_53, e_49_56, e_49_57, e_49_58, e_49_59, e_49_62, e_49_65, e_49_66, e_49_67, e_49_70, e_49_71, e_49_74, e_49_75, e_49_76, e_49_77, e_49_78, e_49_79, e_49_82, e_49_83, e_49_84, e_49_85, e_49_86, e_49_87, e_49_88, e_49_89, e_49_90, e_49_91, e_49_92, e_49_95, e_49_96, e_49_99, e_49_100, e_49_101, e_49_102, e_49_103, e_49_104, e_49_107, e_49_108, e_49_109, e_49_110, e_49_111, e_49_112, e_49_115, e_49_116, e_49_117, e_49_118, e_49_119, e_49_122, e_49_123, e_49_124, e_49_125, e_49_126, Option.bind_some, Option.bind_none, m_kt, m_kn, Option.toList_some, Option.toList_none, List.nil_append, List.cons_append, List.append_nil, ltn, ite_not, ↓reduceIte, true_or, or_true, nP1, oI_s, oI_n, bI_f, bI_t, i1_0, i0_0, Bool.false_eq_true, not_true_eq_false, not_false_eq_true, (show ((2000 : Int32) ≤ 2005) = True by decide), List.length_cons, l1, gL7 (g0 S), ln_i (g6 S), l20, nI_pred, ga, s6 S r.length _ (show r.length < 20 by omega)]
  · have hj : k = 8 ∨ k = 9 ∨ k = 10 ∨ k = 12 ∨ k = 13 := by omega
    have ee : evL G k x (b :: a' :: r) = jn k a' b :: r := by
      unfold evL
      rw [if_neg (by omega), if_neg (by omega), if_neg h11]
      rfl
    have c2 : (2000 : Int32) ≤ cc k x ∧ ¬ cc k x = 2005 := by
      rcases hj with rfl | rfl | rfl | rfl | rfl
      · show (2000 : Int32) ≤ 2000 ∧ ¬ (2000 : Int32) = 2005; decide
      · show (2000 : Int32) ≤ 2001 ∧ ¬ (2001 : Int32) = 2005; decide
      · show (2000 : Int32) ≤ 2002 ∧ ¬ (2002 : Int32) = 2005; decide
      · show (2000 : Int32) ≤ 2003 ∧ ¬ (2003 : Int32) = 2005; decide
      · show (2000 : Int32) ≤ 2004 ∧ ¬ (2004 : Int32) = 2005; decide
    simp only [List.length_cons] at hl
    have l1 : ((2 : Int32) ≤ nI (r.length + 1 + 1)) := nI_le (a := 2) (by omega) (by omega)
    have l20 : nI (r.length + 1 + 1) ≤ nI 20 := nI_le (by omega) (by omega)
    have m2 : nI (r.length + 1 + 1) - 2 = nI r.length := by rw [n_2, pk_sub (by omega)]; rfl
    have g1 := ai_n (g6 S) (show r.length < 20 by omega) (by decide)
    have g2 := ai_n (g6 S) (show r.length + 1 < 20 by omega) (by decide)
    have A1 : S (r.length + 1) = b := A.1
    have A2 : S r.length = a' := A.2.1
    rw [A2] at g1
    rw [A1] at g2
    rw [ee]
    refine ⟨_, AR_p A.2.2, ?_⟩
    simp only [e_49_0, e_49_1, e_49_4, e_49_7, e_49_8, e_49_9, e_49_12, e_49_13, e_49_16, e_49_17, e_49_20, e_49_21, e_49_22, e_49_25, e_49_28, e_49_29, e_49_32, e_49_33, e_49_36, e_49_37, e_49_40, e_49_41, e_49_42, e_49_43, e_49_44, e_49_45, e_49_46, e_49_47, e_49_48, e_49_49, e_49_52, e_49_53, e_49_56, e_49_57, e_49_58, e_49_59, e_49_62, e_49_65, e_49_66, e_49_67, e_49_70, e_49_71, e_49_74, e_49_75, e_49_76, e_49_77, e_49_78, e_49_79, e_49_82, e_49_83, e_49_84, e_49_85, e_49_86, e_49_87, e_49_88, e_49_89, e_49_90, e_49_91, e_49_92, e_49_95, e_49_96, e_49_99, e_49_100, e_49_101, e_49_102, e_49_103, e_49_104, e_49_107, e_49_108, e_49_109, e_49_110, e_49_111, e_49_112, e_49_115, e_49_116, e_49_117, e_49_118, e_49_119, e_49_122, e_49_123, e_49_124, e_49_125, e_49_126, Option.bind_some, Option.bind_none, m_kt, m_kn, Option.toList_some, Option.toList_none, List.nil_append, List.cons_append, List.append_nil, ltn, ite_not, ↓reduceIte, true_or, or_true, nP1, oI_s, oI_n, bI_f, bI_t, i1_0, i0_0, Bool.false_eq_true, not_true_eq_false, not_false_eq_true, c2.1, c2.2, List.length_cons, l1, gL7 (g0 S), ln_i (g6 S), l20, m2, nI_pred, g1, g2, join_ev O d _ hj, s6 S r.length _ (show r.length < 20 by omega)]
end LawC
