/-! The law's world at its start: what the Statement gives, as the small machine's outer cells -/
theorem zt_mem {ws : List Cond} (idx : List Nat) (h : ws = idx.filterMap (fun i => tables_1[i]?)) : ∀ w ∈ ws, w ∈ lw_tbl := by
  intro w hw
  rw [h] at hw
  obtain ⟨i, -, hi⟩ := List.mem_filterMap.mp hw
  exact List.mem_append_right _ (List.mem_of_getElem? hi)
theorem zt_one {w : Cond} (i : Nat) (h : tables_1[i]? = some w) : w ∈ lw_tbl := List.mem_append_right _ (List.mem_of_getElem? h)
def z_N : Cond := Jvm.Cond.and given_1 narrow_1
theorem zn_one {w : Cond} (i : Nat) (h : (flatC z_N)[i]? = some w) : w ∈ flatC z_N := List.mem_of_getElem? h
theorem zn_mem {ws : List Cond} (idx : List Nat) (h : ws = idx.filterMap (fun i => (flatC z_N)[i]?)) : ∀ w ∈ ws, w ∈ flatC z_N := by
  intro w hw
  rw [h] at hw
  obtain ⟨i, -, hi⟩ := List.mem_filterMap.mp hw
  exact List.mem_of_getElem? hi
abbrev zX : Type := String × Nat × String × List Nat × Nat
def z_txs : List zX := [("GlassCity$CityReader", 28, "size", w_size, 68), ("GlassCity$CityReader", 37, "thick", w_thick, 76), ("GlassCity$CityReader", 48, "heat", w_heat, 85), ("GlassCity$CityReader", 52, "cold", w_cold, 93), ("GlassCity$CityReader", 57, "sand", w_sand, 101), ("GlassCity$CityReader", 61, "owner", w_owner, 109), ("GlassCity$CityReader", 65, "lamp", w_lamp, 118), ("GlassCity$CityReader", 69, "cart", w_cart, 126), ("GlassCity$CityReader", 93, "to", w_to, 134), ("GlassCity$CityReader", 98, "felt", w_felt, 140), ("GlassCity$Law", 100, "hide", w_hide, 148), ("GlassCity$Law", 106, "show", w_show, 156), ("GlassCity$Law", 108, "fine", w_fine, 164), ("GlassCity$Law", 113, "if", w_if, 172), ("GlassCity$Law", 128, "not", w_not, 178), ("GlassCity$Law", 141, "thick", w_thick, 185), ("GlassCity$Law", 142, "sand", w_sand, 195), ("GlassCity$Law", 143, "cracks", w_cracks, 204), ("GlassCity$Law", 144, "hour", w_hour, 214), ("GlassCity$Law", 146, "light", w_light, 222), ("GlassCity$Law", 148, "owner", w_owner, 231), ("GlassCity$Law", 149, "load", w_load, 241), ("GlassCity$Law", 124, "and", w_and, 249), ("GlassCity$Law", 126, "or", w_or, 256), ("GlassCityModel", 143, "size", w_size, 262), ("GlassCityModel", 149, "thick", w_thick, 271), ("GlassCityModel", 155, "heat", w_heat, 282), ("GlassCityModel", 157, "cold", w_cold, 291), ("GlassCityModel", 159, "sand", w_sand, 300), ("GlassCityModel", 161, "owner", w_owner, 310), ("GlassCityModel", 163, "lamp", w_lamp, 321), ("GlassCityModel", 164, "cart", w_cart, 330), ("GlassCityModel", 136, "to", w_to, 339), ("GlassCityModel", 138, "felt", w_felt, 346), ("GlassCityModel", 212, "fine", w_fine, 355), ("GlassCityModel", 214, "show", w_show, 364), ("GlassCityModel", 216, "hide", w_hide, 373), ("GlassCityModel", 218, "if", w_if, 382), ("GlassCityModel", 197, "not", w_not, 389), ("GlassCityModel", 176, "cracks", w_cracks, 397), ("GlassCityModel", 178, "hour", w_hour, 408), ("GlassCityModel", 180, "light", w_light, 417), ("GlassCityModel", 182, "load", w_load, 427), ("GlassCityModel", 205, "and", w_and, 436), ("GlassCityModel", 210, "or", w_or, 444)]
def z_tc (q : zX) : List Cond := [.exactly (.string q.1 q.2.1) "java/lang/String", .eq (.field (.string q.1 q.2.1) "java/lang/String" "coder" "B") (.int 0), .arrayOf (.field (.string q.1 q.2.1) "java/lang/String" "value" "[B") .byte, .eq (.length (.field (.string q.1 q.2.1) "java/lang/String" "value" "[B")) (.int (Int32.ofNat q.2.2.2.1.length))] ++
  (List.range q.2.2.2.1.length).map (fun j => .eq (.elem (.field (.string q.1 q.2.1) "java/lang/String" "value" "[B") (.int (Int32.ofNat j))) (.int (nI (q.2.2.2.1.getD j 0))))
theorem z_tc_ok : z_txs.all (fun q => decide (((flatC z_N).drop q.2.2.2.2).take (z_tc q).length = z_tc q)) = true := by decide +kernel
theorem z_tc_len : z_txs.all (fun q => decide (q.2.2.2.1.length < 2 ^ 31)) = true := by decide +kernel
theorem z_tc_mem {q : zX} (hq : q ∈ z_txs) : ∀ w ∈ z_tc q, w ∈ flatC z_N := by
  intro w hw
  have h := of_decide_eq_true (List.all_eq_true.mp z_tc_ok q hq)
  rw [← h] at hw
  exact List.mem_of_mem_drop (List.mem_of_mem_take hw)
theorem z_str_mem {q : zX} (hq : q ∈ z_txs) : Cond.stringRef q.1 q.2.1 q.2.2.1 ∈ lw_tbl := zt_mem (ws := z_txs.map (fun q => Cond.stringRef q.1 q.2.1 q.2.2.1)) [514, 583, 590, 591, 595, 596, 597, 598, 602, 607, 715, 717, 718, 721, 730, 744, 745, 746, 747, 748, 749, 750, 751, 752, 1351, 1366, 1379, 1380, 1381, 1382, 1383, 1384, 1389, 1390, 1399, 1400, 1401, 1402, 1419, 1432, 1433, 1434, 1435, 1436, 1437] (by decide +kernel) _ (List.mem_map.mpr ⟨q, hq, rfl⟩)
def z_TX (A : Nat → Prop) (s : State) (q : zX) (a v : Nat) : Prop := vk_R q.1 q.2.1 q.2.2.1 a s ∧ va_O "java/lang/String" a A s s.heap ∧ va_OF "java/lang/String" "value" "[B" (.ref v) a A s s.heap ∧ va_OF "java/lang/String" "coder" "B" (.int 0) a A s s.heap ∧ va_T .byte v q.2.2.2.1.length (fun j => .int (nI (q.2.2.2.1.getD j 0))) A s s.heap
theorem z_txt {args : Array Value} {s : State} {A : Nat → Prop} {q : zX} (hN : q.2.2.2.1.length < 2 ^ 31) (h : ∀ w ∈ z_tc q, w.before args s = true) (hR : (Cond.stringRef q.1 q.2.1 q.2.2.1).before args s = true) (hA : ∀ a : Nat, a < s.heap.size → ¬ A a) : ∃ a v, z_TX A s q a v := by
  obtain ⟨own, ix, tx, w, pp⟩ := q
  have h1 : (Cond.exactly (.string own ix) "java/lang/String").before args s = true := h _ (by simp [z_tc])
  have h2 : (Cond.eq (.field (.string own ix) "java/lang/String" "coder" "B") (.int 0)).before args s = true := h _ (by simp [z_tc])
  have h3 : (Cond.arrayOf (.field (.string own ix) "java/lang/String" "value" "[B") .byte).before args s = true := h _ (by simp [z_tc])
  have h4 : (Cond.eq (.length (.field (.string own ix) "java/lang/String" "value" "[B")) (.int (Int32.ofNat w.length))).before args s = true := h _ (by simp [z_tc])
  have h5 : ∀ j : Nat, j < w.length → (Cond.eq (.elem (.field (.string own ix) "java/lang/String" "value" "[B") (.int (Int32.ofNat j))) (.int (nI (w.getD j 0)))).before args s = true := fun j hj => h _ (List.mem_append_right _ (List.mem_map.mpr ⟨j, List.mem_range.mpr hj, rfl⟩))
  obtain ⟨a, c, cell, k, ha, -⟩ := Cond.exactly_spec h1
  obtain ⟨v, hv, hT⟩ := va_Tof (f := fun j => .int (nI (w.getD j 0))) hN h3 (va_eqt h4) (fun j hj => va_eqt (h5 j hj)) hA
  exact ⟨a, v, vk_R.of hR ha, va_Oof h1 ha hA, vk_OFof ha hv hA, vk_OFof ha (va_eqt h2) hA, hT⟩
def z_O (L : Nat) (xs : Nat → Int32) (f9 : Bool) : mO := fun k => if k = 0 then some (aI L xs) else if k = 1 then some (aL 6 (fun s => lI (pl s : Int))) else if k = 900 then (if f9 = true then some (.inl (0, 0, .inr (.inr (.inl (fun _ => 0))))) else none) else if k % 2 = 0 then (z_txs[(k - 2) / 2]?).map (fun _ => .inr (0, [.retAddr (k + 1), .int 0])) else (z_txs[(k - 3) / 2]?).map (fun q => aB q.2.2.2.1.length (fun j => nI (q.2.2.2.1.getD j 0)))
def z_oa (b pA fA : Nat) (av : Nat → Nat × Nat) : Nat → Nat := fun k => if k = 0 then b else if k = 1 then pA else if k = 900 then fA else if k % 2 = 0 then (av ((k - 2) / 2)).1 else (av ((k - 3) / 2)).2
theorem z_out {s : State} {b L pA fA : Nat} {xs : Nat → Int32} {f9 : Bool} {av : Nat → Nat × Nat} (hX : va_X b L xs s s.heap) (hb : b < s.heap.size) (hP : va_T .long pA 6 (fun j => .long (lI (pl j : Int))) (s_A s.heap.size) s s.heap) (hav : ∀ (i : Nat) (q : zX), z_txs[i]? = some q → z_TX (s_A s.heap.size) s q (av i).1 (av i).2) :
    ∀ (k : Nat) (c : mC), z_O L xs f9 k = some c → s_out s.heap.size (z_oa b pA fA av) c (z_oa b pA fA av k) s s.heap := by
  intro k c h
  unfold z_O at h
  by_cases h0 : k = 0
  · subst h0
    rw [if_pos rfl] at h
    cases h
    obtain ⟨scr, e1, e2, e3, e4, e5⟩ := hX
    exact ⟨scr, e1, e2, e3, Nat.le_of_eq e4.symm, by rw [e4] <;> rfl, e5, Nat.not_le.mpr hb⟩
  rw [if_neg h0] at h
  by_cases h1 : k = 1
  · subst h1
    rw [if_pos rfl] at h
    cases h
    exact hP
  rw [if_neg h1] at h
  by_cases h9 : k = 900
  · rw [if_pos h9] at h
    split at h
    · cases h
      trivial
    · cases h
  rw [if_neg h9] at h
  by_cases h2 : k % 2 = 0
  · rw [if_pos h2] at h
    obtain ⟨q, hq, rfl⟩ := Option.map_eq_some_iff.mp h
    obtain ⟨-, t1, t2, t3, -⟩ := hav _ q hq
    have e : z_oa b pA fA av k = (av ((k - 2) / 2)).1 := by unfold z_oa; rw [if_neg h0, if_neg h1, if_neg h9, if_pos h2]
    have e' : z_oa b pA fA av (k + 1) = (av ((k - 2) / 2)).2 := by
      unfold z_oa
      rw [if_neg (by omega), if_neg (by omega), if_neg (by omega), if_neg (by omega), show (k + 1 - 3) / 2 = (k - 2) / 2 from by omega]
    rw [e]
    refine ⟨t1, fun i nd v hi hv => ?_⟩
    match i, hi, hv with
    | 0, hi, hv =>
      cases hi
      cases hv
      show va_OF _ "value" "[B" (.ref (z_oa b pA fA av (k + 1))) _ _ _ _
      rw [e']
      exact t2
    | 1, hi, hv =>
      cases hi
      cases hv
      exact t3
    | i + 2, hi, hv => simp at hv
  · rw [if_neg h2] at h
    obtain ⟨q, hq, rfl⟩ := Option.map_eq_some_iff.mp h
    obtain ⟨-, -, -, -, t4⟩ := hav _ q hq
    have e : z_oa b pA fA av k = (av ((k - 3) / 2)).2 := by unfold z_oa; rw [if_neg h0, if_neg h1, if_neg h9, if_neg h2]
    rw [e]
    exact t4
theorem z_TXO {L : Nat} {xs : Nat → Int32} {f9 : Bool} {q : zX} (i : Nat) (hq : z_txs[i]? = some q) : TX (z_O L xs f9) (2 + 2 * i) q.2.2.2.1 := by
  have hi : i < 45 := (List.getElem?_eq_some_iff.mp hq).1
  have e1 : z_O L xs f9 (2 + 2 * i) = some (.inr (0, [.retAddr (2 + 2 * i + 1), .int 0])) := by
    unfold z_O
    rw [if_neg (by omega), if_neg (by omega), if_neg (by omega), if_pos (by omega), show (2 + 2 * i - 2) / 2 = i from by omega, hq]
    rfl
  have e2 : z_O L xs f9 (2 + 2 * i + 1) = some (aB q.2.2.2.1.length (fun j => nI (q.2.2.2.1.getD j 0))) := by
    unfold z_O
    rw [if_neg (by omega), if_neg (by omega), if_neg (by omega), if_neg (by omega), show (2 + 2 * i + 1 - 3) / 2 = i from by omega, hq]
    rfl
  refine ⟨?_, ?_, ?_, _, e2, fun j _ => rfl⟩
  · unfold m_isO; rw [e1]
  · unfold m_gO; rw [e1]; rfl
  · unfold m_gO; rw [e1]; rfl
theorem z_CTX (L : Nat) (xs : Nat → Int32) (f9 : Bool) : CTX (z_O L xs f9) := ⟨z_TXO (q := ("GlassCity$CityReader", 28, "size", w_size, 68)) 0 rfl, z_TXO (q := ("GlassCity$CityReader", 37, "thick", w_thick, 76)) 1 rfl, z_TXO (q := ("GlassCity$CityReader", 48, "heat", w_heat, 85)) 2 rfl, z_TXO (q := ("GlassCity$CityReader", 52, "cold", w_cold, 93)) 3 rfl, z_TXO (q := ("GlassCity$CityReader", 57, "sand", w_sand, 101)) 4 rfl, z_TXO (q := ("GlassCity$CityReader", 61, "owner", w_owner, 109)) 5 rfl, z_TXO (q := ("GlassCity$CityReader", 65, "lamp", w_lamp, 118)) 6 rfl, z_TXO (q := ("GlassCity$CityReader", 69, "cart", w_cart, 126)) 7 rfl, z_TXO (q := ("GlassCity$CityReader", 93, "to", w_to, 134)) 8 rfl, z_TXO (q := ("GlassCity$CityReader", 98, "felt", w_felt, 140)) 9 rfl⟩
theorem z_MTX (L : Nat) (xs : Nat → Int32) (f9 : Bool) : MTX (z_O L xs f9) := ⟨z_TXO (q := ("GlassCityModel", 143, "size", w_size, 262)) 24 rfl, z_TXO (q := ("GlassCityModel", 149, "thick", w_thick, 271)) 25 rfl, z_TXO (q := ("GlassCityModel", 155, "heat", w_heat, 282)) 26 rfl, z_TXO (q := ("GlassCityModel", 157, "cold", w_cold, 291)) 27 rfl, z_TXO (q := ("GlassCityModel", 159, "sand", w_sand, 300)) 28 rfl, z_TXO (q := ("GlassCityModel", 161, "owner", w_owner, 310)) 29 rfl, z_TXO (q := ("GlassCityModel", 163, "lamp", w_lamp, 321)) 30 rfl, z_TXO (q := ("GlassCityModel", 164, "cart", w_cart, 330)) 31 rfl, z_TXO (q := ("GlassCityModel", 136, "to", w_to, 339)) 32 rfl, z_TXO (q := ("GlassCityModel", 138, "felt", w_felt, 346)) 33 rfl⟩
theorem z_LTX (L : Nat) (xs : Nat → Int32) (f9 : Bool) : LTX (z_O L xs f9) := ⟨z_TXO (q := ("GlassCity$Law", 100, "hide", w_hide, 148)) 10 rfl, z_TXO (q := ("GlassCity$Law", 106, "show", w_show, 156)) 11 rfl, z_TXO (q := ("GlassCity$Law", 108, "fine", w_fine, 164)) 12 rfl, z_TXO (q := ("GlassCity$Law", 113, "if", w_if, 172)) 13 rfl, z_TXO (q := ("GlassCity$Law", 128, "not", w_not, 178)) 14 rfl, fun k hk => by
  rcases (show k = 0 ∨ k = 1 ∨ k = 2 ∨ k = 3 ∨ k = 4 ∨ k = 5 ∨ k = 6 by omega) with rfl | rfl | rfl | rfl | rfl | rfl | rfl
  · exact z_TXO (q := ("GlassCity$Law", 141, "thick", w_thick, 185)) 15 rfl
  · exact z_TXO (q := ("GlassCity$Law", 142, "sand", w_sand, 195)) 16 rfl
  · exact z_TXO (q := ("GlassCity$Law", 143, "cracks", w_cracks, 204)) 17 rfl
  · exact z_TXO (q := ("GlassCity$Law", 144, "hour", w_hour, 214)) 18 rfl
  · exact z_TXO (q := ("GlassCity$Law", 146, "light", w_light, 222)) 19 rfl
  · exact z_TXO (q := ("GlassCity$Law", 148, "owner", w_owner, 231)) 20 rfl
  · exact z_TXO (q := ("GlassCity$Law", 149, "load", w_load, 241)) 21 rfl
, z_TXO (q := ("GlassCity$Law", 124, "and", w_and, 249)) 22 rfl, z_TXO (q := ("GlassCity$Law", 126, "or", w_or, 256)) 23 rfl⟩
theorem z_MTL (L : Nat) (xs : Nat → Int32) (f9 : Bool) : MTL (z_O L xs f9) := ⟨z_TXO (q := ("GlassCityModel", 212, "fine", w_fine, 355)) 34 rfl, z_TXO (q := ("GlassCityModel", 214, "show", w_show, 364)) 35 rfl, z_TXO (q := ("GlassCityModel", 216, "hide", w_hide, 373)) 36 rfl, z_TXO (q := ("GlassCityModel", 218, "if", w_if, 382)) 37 rfl, z_TXO (q := ("GlassCityModel", 197, "not", w_not, 389)) 38 rfl, z_TXO (q := ("GlassCityModel", 149, "thick", w_thick, 271)) 25 rfl, z_TXO (q := ("GlassCityModel", 159, "sand", w_sand, 300)) 28 rfl, z_TXO (q := ("GlassCityModel", 176, "cracks", w_cracks, 397)) 39 rfl, z_TXO (q := ("GlassCityModel", 178, "hour", w_hour, 408)) 40 rfl, z_TXO (q := ("GlassCityModel", 180, "light", w_light, 417)) 41 rfl, z_TXO (q := ("GlassCityModel", 161, "owner", w_owner, 310)) 29 rfl, z_TXO (q := ("GlassCityModel", 182, "load", w_load, 427)) 42 rfl, z_TXO (q := ("GlassCityModel", 205, "and", w_and, 436)) 43 rfl, z_TXO (q := ("GlassCityModel", 210, "or", w_or, 444)) 44 rfl⟩
theorem z_PLC (L : Nat) (xs : Nat → Int32) (f9 : Bool) : PLC (z_O L xs f9) := ⟨_, rfl, fun _ _ => rfl⟩
theorem z_arr {args : Array Value} {s : State} {ty : FieldType} (h : (Cond.arrayClass ty).before args s = true) (hp : ∀ C, ty ≠ .object C) : ∃ cA : ClassId, ArrOfT s cA ty ∧ va_RA s cA ty := by
  obtain ⟨cA, kA, comp, h1, h2, h3⟩ := Cond.arrayClass_spec h
  refine ⟨cA, fun n z => ⟨fun k h => (by cases h), kA, h2, comp, h3⟩, ?_⟩
  cases ty with
  | object C => exact absurd rfl (hp C)
  | _ => exact h1
theorem z_K {args : Array Value} {s : State} (hts : ∀ w ∈ lw_tbl, w.before args s = true) : ∃ (D : va_G) (cA : Nat → ClassId), va_K D vwCl (s_tys cA) s := by
  obtain ⟨c0, i0, h0⟩ := u_known (C := RX0) (T := TX0) (N := 18) (n := 18) hts (fun w hw => (List.mem_filter.mp (inX0 w hw)).1) (hts (.instantiable RX0 18) (zt_one 38 (by decide +kernel)))
  obtain ⟨c1, i1, h1⟩ := u_known (C := RX2) (T := TX2) (N := 1) (n := 1) hts (fun w hw => (List.mem_filter.mp (inX2 w hw)).1) (hts (.instantiable RX2 1) (zt_one 240 (by decide +kernel)))
  obtain ⟨c2, i2, h2⟩ := u_known (C := RX5) (T := TX5) (N := 8) (n := 8) hts (fun w hw => (List.mem_filter.mp (inX5 w hw)).1) (hts (.instantiable RX5 8) (zt_one 161 (by decide +kernel)))
  obtain ⟨c3, i3, h3⟩ := u_known (C := RX6) (T := TX6) (N := 2) (n := 2) hts (fun w hw => (List.mem_filter.mp (inX6 w hw)).1) (hts (.instantiable RX6 2) (zt_one 284 (by decide +kernel)))
  obtain ⟨c4, i4, h4⟩ := u_known (C := RX8) (T := TX8) (N := 5) (n := 5) hts (fun w hw => (List.mem_filter.mp (inX8 w hw)).1) (hts (.instantiable RX8 5) (zt_one 217 (by decide +kernel)))
  obtain ⟨c5, i5, h5⟩ := u_known (C := RX9) (T := TX9) (N := 5) (n := 5) hts (fun w hw => (List.mem_filter.mp (inX9 w hw)).1) (hts (.instantiable RX9 5) (zt_one 193 (by decide +kernel)))
  obtain ⟨c6, i6, h6⟩ := u_known (C := RX10) (T := TX10) (N := 9) (n := 9) hts (fun w hw => (List.mem_filter.mp (inX10 w hw)).1) (hts (.instantiable RX10 9) (zt_one 250 (by decide +kernel)))
  obtain ⟨c7, i7, h7⟩ := u_known (C := RX11) (T := TX11) (N := 14) (n := 14) hts (fun w hw => (List.mem_filter.mp (inX11 w hw)).1) (hts (.instantiable RX11 14) (zt_one 30 (by decide +kernel)))
  obtain ⟨c8, i8, h8⟩ := u_known (C := RX12) (T := TX12) (N := 27) (n := 27) hts (fun w hw => (List.mem_filter.mp (inX12 w hw)).1) (hts (.instantiable RX12 27) (zt_one 1208 (by decide +kernel)))
  obtain ⟨a0, q0⟩ := z_arr (hts _ (List.mem_filter.mp w_arr0).1) (fun _ => by nofun)
  obtain ⟨a1, q1⟩ := z_arr (hts _ (List.mem_filter.mp w_arr1).1) (fun _ => by nofun)
  obtain ⟨a2, q2⟩ := z_arr (hts _ (List.mem_filter.mp w_arr2).1) (fun _ => by nofun)
  refine ⟨(fun k => if k = 0 then c0 else if k = 1 then c1 else if k = 2 then c2 else if k = 3 then c3 else if k = 4 then c4 else if k = 5 then c5 else if k = 6 then c6 else if k = 7 then c7 else c8, fun k => if k = 0 then i0 else if k = 1 then i1 else if k = 2 then i2 else if k = 3 then i3 else if k = 4 then i4 else if k = 5 then i5 else if k = 6 then i6 else if k = 7 then i7 else i8), fun k => if k = 0 then a0 else if k = 1 then a1 else a2, fun k q hq => ?_, fun k q hq => ?_⟩
  · match k, hq with
    | 0, hq => cases hq; exact h0
    | 1, hq => cases hq; exact h1
    | 2, hq => cases hq; exact h2
    | 3, hq => cases hq; exact h3
    | 4, hq => cases hq; exact h4
    | 5, hq => cases hq; exact h5
    | 6, hq => cases hq; exact h6
    | 7, hq => cases hq; exact h7
    | 8, hq => cases hq; exact h8
    | k + 9, hq => simp [vwCl] at hq
  · match k, hq with
    | 0, hq => cases hq; exact q0
    | 1, hq => cases hq; exact q1
    | 2, hq => cases hq; exact q2
    | k + 3, hq => simp [s_tys] at hq
theorem z_world {args : Array Value} {s : State} {b L : Nat} {xs : Nat → Int32} (hts : ∀ w ∈ lw_tbl, w.before args s = true) (hgv : z_N.before args s = true) (hX : va_X b L xs s s.heap) (hb : b < s.heap.size) :
    ∃ (D : va_G) (cA : Nat → ClassId) (oa : Nat → Nat) (f9 : Bool), oa 0 = b ∧ s_Wd s.heap.size oa cA D vwCl (z_O L xs f9) s_tb s s.heap := by
  have hs := flat_of_before _ hgv
  have hA : ∀ a : Nat, a < s.heap.size → ¬ s_A s.heap.size a := fun a h => Nat.not_le.mpr h
  obtain ⟨D, cA, hK⟩ := z_K hts
  have hall : ∀ i : Nat, ∃ av : Nat × Nat, ∀ q : zX, z_txs[i]? = some q → z_TX (s_A s.heap.size) s q av.1 av.2 := by
    intro i
    cases hi : z_txs[i]? with
    | none => exact ⟨(0, 0), fun q h => by cases h⟩
    | some q =>
      have hq : q ∈ z_txs := List.mem_of_getElem? hi
      obtain ⟨a, v, h⟩ := z_txt (A := s_A s.heap.size) (of_decide_eq_true (List.all_eq_true.mp z_tc_len q hq)) (fun w hw => hs w (z_tc_mem hq w hw)) (hts _ (z_str_mem hq)) hA
      exact ⟨(a, v), fun q' h' => by cases h'; exact h⟩
  obtain ⟨av, hav⟩ : ∃ av : Nat → Nat × Nat, ∀ (i : Nat) (q : zX), z_txs[i]? = some q → z_TX (s_A s.heap.size) s q (av i).1 (av i).2 := ⟨fun i => Classical.choose (hall i), fun i => Classical.choose_spec (hall i)⟩
  obtain ⟨pA, hpe, hpT⟩ := va_Tof (args := args) (s := s) (tm := (.static "GlassCity$Market" "PLACES" "[J")) (ty := .long) (N := 6) (f := fun j => .long (lI (pl j : Int))) (A := s_A s.heap.size) (by decide) (hs _ (zn_one 12 (by decide +kernel))) (va_eqt (z := 6) (hs _ (zn_one 13 (by decide +kernel)))) (fun j hj => by
    rcases (show j = 0 ∨ j = 1 ∨ j = 2 ∨ j = 3 ∨ j = 4 ∨ j = 5 by omega) with rfl | rfl | rfl | rfl | rfl | rfl
    · exact va_eqtl (t := .elem (.static "GlassCity$Market" "PLACES" "[J") (.int 0)) (z := 28629151) (hs _ (zn_one 14 (by decide +kernel)))
    · exact va_eqtl (t := .elem (.static "GlassCity$Market" "PLACES" "[J") (.int 1)) (z := 923521) (hs _ (zn_one 15 (by decide +kernel)))
    · exact va_eqtl (t := .elem (.static "GlassCity$Market" "PLACES" "[J") (.int 2)) (z := 29791) (hs _ (zn_one 16 (by decide +kernel)))
    · exact va_eqtl (t := .elem (.static "GlassCity$Market" "PLACES" "[J") (.int 3)) (z := 961) (hs _ (zn_one 17 (by decide +kernel)))
    · exact va_eqtl (t := .elem (.static "GlassCity$Market" "PLACES" "[J") (.int 4)) (z := 31) (hs _ (zn_one 18 (by decide +kernel)))
    · exact va_eqtl (t := .elem (.static "GlassCity$Market" "PLACES" "[J") (.int 5)) (z := 1) (hs _ (zn_one 19 (by decide +kernel)))
    ) hA
  have zP : va_Z "GlassCity$Market" "PLACES" "[J" (.ref pA) (s_A s.heap.size) s s.heap := va_Zof (hts (.laysStatic "GlassCity$Market" "PLACES" "[J") (zt_one 987 (by decide +kernel))) (hts (.initialized "GlassCity$Market") (zt_one 9 (by decide +kernel))) hpe hA
  have zC : va_Z "java/lang/String" "COMPACT_STRINGS" "Z" (.int 1) (s_A s.heap.size) s s.heap := va_Zof (hts (.laysStatic "java/lang/String" "COMPACT_STRINGS" "Z") (zt_one 528 (by decide +kernel))) (hts (.initialized "java/lang/String") (zt_one 13 (by decide +kernel))) (va_eqi (hs _ (zn_one 4 (by decide +kernel)))) hA
  obtain ⟨f9, fA, zF⟩ : ∃ (f9 : Bool) (fA : Nat), va_Z "jdk/internal/util/Preconditions" "SIOOBE_FORMATTER" "Ljava/util/function/BiFunction;" (if f9 = true then .ref fA else .null) (s_A s.heap.size) s s.heap := by
    rcases va_Zqof (hts (.laysStatic "jdk/internal/util/Preconditions" "SIOOBE_FORMATTER" "Ljava/util/function/BiFunction;") (zt_one 548 (by decide +kernel))) (hts (.initialized "jdk/internal/util/Preconditions") (zt_one 15 (by decide +kernel))) (hs _ (zn_one 5 (by decide +kernel))) hA with h | ⟨t, h⟩
    · exact ⟨false, 0, h⟩
    · exact ⟨true, t, h⟩
  have zU : vx_Zq "java/lang/Throwable" "UNASSIGNED_STACK" "[Ljava/lang/StackTraceElement;" (s_A s.heap.size) s s.heap := vx_Zqof (hts (.laysStatic "java/lang/Throwable" "UNASSIGNED_STACK" "[Ljava/lang/StackTraceElement;") (zt_one 647 (by decide +kernel))) (hts (.initialized "java/lang/Throwable") (zt_one 17 (by decide +kernel))) (hs _ (zn_one 9 (by decide +kernel))) hA
  have zS : vx_Zq "java/lang/Throwable" "SUPPRESSED_SENTINEL" "Ljava/util/List;" (s_A s.heap.size) s s.heap := vx_Zqof (hts (.laysStatic "java/lang/Throwable" "SUPPRESSED_SENTINEL" "Ljava/util/List;") (zt_one 649 (by decide +kernel))) (hts (.initialized "java/lang/Throwable") (zt_one 17 (by decide +kernel))) (hs _ (zn_one 10 (by decide +kernel))) hA
  refine ⟨D, cA, z_oa b pA fA av, f9, rfl, hK, z_out hX hb hpT hav, ?_, ?_, ?_, ?_, ?_, ?_, zU, zS⟩
  · intro q hq
    rcases List.mem_cons.mp hq with rfl | hq
    · exact zP
    rcases List.mem_cons.mp hq with rfl | hq
    · exact zC
    rcases List.mem_cons.mp hq with rfl | hq
    · cases f9
      · exact zF
      · exact zF
    · cases hq
  · intro q hq
    obtain ⟨i, hi⟩ := List.mem_iff_getElem?.mp hq
    have h1 : s_tb.2.1 = z_txs.mapIdx (fun i q => (q.1, q.2.1, q.2.2.1, 2 + 2 * i)) := by decide +kernel
    rw [h1, List.getElem?_mapIdx] at hi
    obtain ⟨r, hr, rfl⟩ := Option.map_eq_some_iff.mp hi
    have e : z_oa b pA fA av (2 + 2 * i) = (av i).1 := by
      have hi : i < 45 := (List.getElem?_eq_some_iff.mp hr).1
      unfold z_oa
      rw [if_neg (by omega), if_neg (by omega), if_neg (by omega), if_pos (by omega), show (2 + 2 * i - 2) / 2 = i from by omega]
    show vk_R r.1 r.2.1 r.2.2.1 (z_oa b pA fA av (2 + 2 * i)) s
    rw [e]
    exact (hav i r hr).1
  · intro q hq
    exact va_Nw.of rfl (hts _ (zt_mem (ws := s_tb.2.2.1.map (fun q => Cond.methodLinkNest q.1 q.2.1 q.2.2.1 q.2.2.2)) [162, 194, 218, 241, 251, 285] (by decide +kernel) _ (List.mem_map.mpr ⟨q, hq, rfl⟩)))
  · intro q hq
    exact va_Nc.of (hs _ (zn_mem (ws := s_tb.2.2.2.1.map (fun q => Cond.not (Cond.castable q.1 q.2))) [29, 30, 31, 41, 42, 43, 53, 54, 55, 65, 66, 67] (by decide +kernel) _ (List.mem_map.mpr ⟨q, hq, rfl⟩)))
  · intro q hq
    exact va_Nw.of rfl (hts _ (zt_mem (ws := s_tb.2.2.2.2.1.map (fun q => Cond.castable q.1 q.2)) [622, 686, 768, 793, 1738, 1739, 1740, 1741, 1742, 1743, 1744, 1745, 1746, 1747, 1748, 1749, 1750, 1751, 1752] (by decide +kernel) _ (List.mem_map.mpr ⟨q, hq, rfl⟩)))
  · intro q hq
    exact va_Nw.of rfl (hts _ (zt_mem (ws := s_tb.2.2.2.2.2.map (fun q => Cond.declares q)) [623, 624, 625, 626, 627, 628] (by decide +kernel) _ (List.mem_map.mpr ⟨q, hq, rfl⟩)))
