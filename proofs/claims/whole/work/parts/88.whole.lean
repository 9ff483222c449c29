theorem whole_start {p : Program} {e : Env} {s : State} {m : MethodId} {below : List Frame} {meth : Method} {c : Code} (l : Launch) (hflags : l.flags = flags0) {b L : Nat} {xs : Nat → Int32} (hL : L ≤ 3584) (C0 : lw_At p s m meth c b L xs) : W p l e room_1 s m #[Value.ref b] below meth c s.heap [] 0 0 (lw_Z below #[Value.ref b] s) (entryFrame m ([Value.ref b] : List Value).toArray 4) := by
  obtain ⟨hx, hb, hr, hml, hown, hts, hX, hbl, hlocks, hgv⟩ := C0
  obtain ⟨D, t0, t1, t2, t3, t4, hK⟩ := st_K hts
  obtain ⟨adK, adV, hS0⟩ := st_S hts hgv (A := fun q : Nat => s.heap.size ≤ q) (fun a ha => Nat.not_le.mpr ha) t0 t1 t2 t3 t4
  have hC : CxOK (p, l, e, room_1, s, m, #[Value.ref b], below, meth, c, D, (fun q : Nat => s.heap.size ≤ q), s.heap, 4, lw_Z below #[Value.ref b] s) (tyS t0 t1 t2 t3 t4 adK adV) cL_law RL wsL_law room_1 4 := ⟨hx, hb, hml, rfl, rfl, hown, fun w hw => hts w (wsL_law_in w hw), hK, st_NW hts, fun _ h => h, hlocks, hS0⟩
  have hA2 : AO2 s := ⟨va_AO.of (hts (.arrayOver (.object "LayerShop$Step")) (by decide +kernel)), hts (.arrayOver (.array .int)) (by decide +kernel)⟩
  have hl := lv_entry ([.ref b]) (n := 4) (Nat.le_of_ble_eq_true rfl)
  rw [lg_entry_eq]
  generalize (lg_sl ([.ref b]) ++ List.replicate (4 - (lg_sl ([.ref b])).length) Slot.unset).toArray = ls at hl ⊢
  have hl : lv_has ls 4 [(0, .ref b)] := hl
  refine law_enter hC hA2 (b := b) (Ls := L) (xs := xs) ⟨hX, hbl, Nat.not_le.mpr hbl⟩ hL (fun lv ws => ?_) s.heap [] ls (fun k q h => by simp at h) ⟨fun i j p q h => by simp at h, fun k q h => by simp at h⟩ va_S.rf hl
  intro H locs ls hP hD hS hl
  refine va_forget (fun q hq => hS.2.2 q hq) ?_
  refine W.widen (k := 600000) (n := 7302249) (Nat.le_of_ble_eq_true rfl) (Nat.le_of_ble_eq_true rfl) ?_
  exact lw_ret hx hb hr hlocks dL_law_820
