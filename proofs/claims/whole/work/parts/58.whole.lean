/-- from the entry, for every script of at most 3072 ints, the law comes to its end with true -/
theorem whole_start {p : Program} {e : Env} {s : State} {m : MethodId} {below : List Frame} {meth : Method} {c : Code} (l : Launch) {b L : Nat} {xs : Nat → Int32} (hL : L ≤ 3072) (C0 : lw_At p s m meth c b L xs) : W p l e room_1 s m #[Value.ref b] below meth c s.heap [] 0 0 (lw_Z below #[Value.ref b] s) (entryFrame m ([Value.ref b] : List Value).toArray 4) := by
  obtain ⟨hx, hb, hr, hml, hown, hts, hX, hbl, hlocks, hgv⟩ := id C0
  obtain ⟨E, hE1, hE2, hE3, hG⟩ := z_env hts hX hbl hgv
  have hl := lv_entry ([.ref b]) (n := 4) (Nat.le_of_ble_eq_true rfl)
  rw [lg_entry_eq]
  have hst := law_start (l := l) (E := E) (b := b) (nm := meth.name) (by omega)
  rw [hE2] at hst
  have hk := hst p e s m #[Value.ref b] below meth c ⟨hx, hb, hml, hown, fun w hw => hts w (zwt_in hw), hG, by omega, hlocks, hr, rfl⟩ s.heap [] _ ⟨by rw [zw_len, hE1]; omega, fun k q h => by rw [show zw E 0 (fun _ => (0, 0)) (fun _ _ => 0) (fun _ _ => none) = [] from rfl] at h; simp [zl] at h⟩ va_S.rf hl
  intro T hT X
  obtain ⟨t, a1, b1⟩ := hk T hT X
  exact ⟨t, a1, b1 rfl hE1.symm⟩
