/-! The law: whole_start. -/
theorem x_end {p : Program} {l : Launch} {e : Env} {s : State} {m : MethodId} {below : List Frame} {meth : Method} {c : Code} {b : Nat} {Ω : xO} {nm ds : String} (hx : p.tables.exec = Jvm.exec) (hb : c.code = code) (hr : meth.sig.returnType = ret) (hlocks : meth.locks = false) (hΩ : Ω.2.2.1 = s.heap.size) (r : Nat) (h : xHp) : AtL (p, l, e, room_1, s, m, #[Value.ref b], below, meth, c, Ω) nm ds (lw_Z below #[Value.ref b] s) h 421 r [] := by
  refine x_iconst (v := 1) d_L_law_421 (by decide) ?_
  intro C H locs ls hH hl hv
  refine va_forget (fun q hq => by rw [← hΩ]; exact hl q hq) ?_
  refine W.widen (k := 600000) (n := 7302250) (by decide) (by decide) ?_
  exact lw_ret hx hb hr hlocks d_L_law_422
theorem xt1 {i : Nat} {w : Cond} (h : tables_1_1[i]? = some w) : w ∈ lw_tbl := List.mem_append_right _ (List.mem_append_left _ (List.mem_of_getElem? h))
theorem xt2 {i : Nat} {w : Cond} (h : tables_1_2[i]? = some w) : w ∈ lw_tbl := List.mem_append_right _ (List.mem_append_right _ (List.mem_append_left _ (List.mem_of_getElem? h)))
theorem x_nest {args : Array Value} {s : State} (hts : ∀ w ∈ lw_tbl, w.before args s = true) : ∀ q ∈ xml, va_Nw (.methodLinkNest q.1 q.2.1 q.2.2.1 q.2.2.2) s := by
  intro q hq
  rcases List.mem_cons.mp hq with rfl | hq
  · exact va_Nw.of rfl (hts _ (xt1 (i := 21) rfl))
  rcases List.mem_cons.mp hq with rfl | hq
  · exact va_Nw.of rfl (hts _ (xt1 (i := 41) rfl))
  rcases List.mem_cons.mp hq with rfl | hq
  · exact va_Nw.of rfl (hts _ (xt1 (i := 55) rfl))
  rcases List.mem_cons.mp hq with rfl | hq
  · exact va_Nw.of rfl (hts _ (xt1 (i := 99) rfl))
  rcases List.mem_cons.mp hq with rfl | hq
  · exact va_Nw.of rfl (hts _ (xt1 (i := 126) rfl))
  rcases List.mem_cons.mp hq with rfl | hq
  · exact va_Nw.of rfl (hts _ (xt1 (i := 131) rfl))
  cases hq
theorem x_over {args : Array Value} {s : State} (hts : ∀ w ∈ lw_tbl, w.before args s = true) : ∀ E ∈ xao, va_AO E s := by
  intro q hq
  rcases List.mem_cons.mp hq with rfl | hq
  · exact va_AO.of (hts _ (xt1 (i := 97) rfl))
  rcases List.mem_cons.mp hq with rfl | hq
  · exact va_AO.of (hts _ (xt1 (i := 124) rfl))
  cases hq
theorem st_start {args : Array Value} {s : State} (hts : ∀ w ∈ lw_tbl, w.before args s = true) (hgv : (Jvm.Cond.and given_1 narrow_1).before args s = true) : ∃ t : Nat, va_Z "JoinKeeper$Polynomial" "COLUMN_PLACES" "[I" (.ref t) (fun a => s.heap.size ≤ a) s s.heap ∧ va_T .int t 4 (fun j => .int (match j with | 0 => 1 | 1 => 3 | 2 => 9 | _ => 27)) (fun a => s.heap.size ≤ a) s s.heap := by
  have hs := flat_of_before _ hgv
  have harr : (Cond.arrayOf (.static "JoinKeeper$Polynomial" "COLUMN_PLACES" "[I") .int).before args s = true := hs _ (by decide +kernel)
  have hlen : (Cond.eq (.length (.static "JoinKeeper$Polynomial" "COLUMN_PLACES" "[I")) (.int 4)).before args s = true := hs _ (by decide +kernel)
  have h0 : (Cond.eq (.elem (.static "JoinKeeper$Polynomial" "COLUMN_PLACES" "[I") (.int 0)) (.int 1)).before args s = true := hs _ (by decide +kernel)
  have h1 : (Cond.eq (.elem (.static "JoinKeeper$Polynomial" "COLUMN_PLACES" "[I") (.int 1)) (.int 3)).before args s = true := hs _ (by decide +kernel)
  have h2 : (Cond.eq (.elem (.static "JoinKeeper$Polynomial" "COLUMN_PLACES" "[I") (.int 2)) (.int 9)).before args s = true := hs _ (by decide +kernel)
  have h3 : (Cond.eq (.elem (.static "JoinKeeper$Polynomial" "COLUMN_PLACES" "[I") (.int 3)) (.int 27)).before args s = true := hs _ (by decide +kernel)
  obtain ⟨t, ht, hT⟩ := va_Tof (N := 4) (f := fun j => .int (match j with | 0 => 1 | 1 => 3 | 2 => 9 | _ => 27)) (A := fun a => s.heap.size ≤ a) (by decide) harr (va_eqt hlen) (fun j hj => by
    rcases (show j = 0 ∨ j = 1 ∨ j = 2 ∨ j = 3 by omega) with rfl | rfl | rfl | rfl
    · exact va_eqt h0
    · exact va_eqt h1
    · exact va_eqt h2
    · exact va_eqt h3) (fun a ha => by omega)
  exact ⟨t, va_Zref (hts _ (xt2 (i := 130) rfl)) (hts _ (xt1 (i := 6) rfl)) ht (fun a ha => by omega), hT⟩
/-- YOUR PART: from the entry, for every script of at most 2560 ints, the law comes to its end with true -/
theorem whole_start {p : Program} {e : Env} {s : State} {m : MethodId} {below : List Frame} {meth : Method} {c : Code} (l : Launch) {b L : Nat} {xs : Nat → Int32} (hL : L ≤ 2560) (C0 : lw_At p s m meth c b L xs) : W p l e room_1 s m #[Value.ref b] below meth c s.heap [] 0 0 (lw_Z below #[Value.ref b] s) (entryFrame m ([Value.ref b] : List Value).toArray 4) := by
  obtain ⟨hx, hb, hr, hml, hown, hts, hX, hbl, hlocks, hgv⟩ := C0
  have hB : ∀ w ∈ xBIG, w.before #[Value.ref b] s = true := fun w hw => hts w (List.mem_filter.mp hw).1
  have hao := x_over hts
  obtain ⟨D, tc, hK⟩ := k_start hB hao
  obtain ⟨t, hZ, hT⟩ := st_start hts hgv
  generalize hΩ : ((D, tc, s.heap.size, (fun i => if i = 0 then b else t), s.heap) : xO) = Ω
  have o1 : Ω.1 = D := by rw [← hΩ]
  have o2 : Ω.2.1 = tc := by rw [← hΩ]
  have o3 : Ω.2.2.1 = s.heap.size := by rw [← hΩ]
  have o4 : Ω.2.2.2.1 0 = b := by rw [← hΩ]; rfl
  have o5 : Ω.2.2.2.1 1 = t := by rw [← hΩ]; rfl
  have o6 : Ω.2.2.2.2 = s.heap := by rw [← hΩ]
  have hst : xst Ω s := by
    refine ⟨fun i q hq => ?_, x_nest hts, hao⟩
    match i, hq with
    | 0, hq =>
      cases hq
      rw [o3, o6]
      show va_Z _ _ _ (.ref (Ω.2.2.2.1 1)) _ _ _ ∧ va_T _ (Ω.2.2.2.1 1) _ _ _ _ _
      rw [o5]
      exact ⟨hZ, hT⟩
    | i + 1, hq => simp [xsl] at hq
  have C : XC p room_1 s m #[Value.ref b] meth c Ω (yL meth.name "([I)Z") code 4 ret (50, 116, 7757) := ⟨hx, hb, hml, hown, hB, by rw [o1, o2]; exact hK, hst, hlocks, hr, rfl, by decide, by decide, by decide, by decide⟩
  have hXX : xX (p, l, e, room_1, s, m, #[Value.ref b], below, meth, c, Ω) L xs := by
    show va_X (Ω.2.2.2.1 0) L xs s Ω.2.2.2.2 ∧ Ω.2.2.2.1 0 < Ω.2.2.1
    rw [o3, o4, o6]
    exact ⟨hX, hbl⟩
  have K := l_start (Γ := (p, l, e, room_1, s, m, #[Value.ref b], below, meth, c, Ω)) (nm := meth.name) (ds := "([I)Z") (Z := lw_Z below #[Value.ref b] s) (h := fun _ => .inr (0, [])) hL hXX (fun r h => x_end hx hb hr hlocks o3 r h)
  rw [lg_entry_eq]
  refine K C s.heap [] _ ⟨by decide, by rw [o3]; rfl, by rw [o6, o3], fun q hq => by rw [o6], fun k hk => absurd hk (Nat.not_lt_zero k)⟩ (fun q h => by cases h) ?_
  have e0 : xl Ω 0 [some (.ref 1000000), none, none, none] = [(0, .ref b)] := by
    show [(0, Value.ref (xi Ω 1000000))] = _
    rw [xi_0, o4]
  rw [e0]
  exact lv_entry ([.ref b]) (n := 4) (Nat.le_of_ble_eq_true rfl)
