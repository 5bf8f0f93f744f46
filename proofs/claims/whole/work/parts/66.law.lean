theorem g_154 (cy ad : Nat → Nat) : ∀ row, gE cy ad 154 row = .inl (cy 2, 1, .inr (.inl (fun j => (row j).toInt64))) := fun _ => rfl
/-- what the law's wrappers are given -/
def LW (D : va_G) (cy : Nat → Nat) (ws : va_W) (A : Nat → Prop) (U : State) : Prop := TW D cy ws A U ∧ va_Nc "java/lang/IllegalStateException" "java/lang/IllegalArgumentException" U ∧ va_Nc "java/lang/UnsupportedOperationException" "java/lang/IllegalArgumentException" U ∧ va_Nc "java/lang/UnsupportedOperationException" "java/lang/IllegalStateException" U ∧ va_Nc "java/lang/IndexOutOfBoundsException" "java/lang/IllegalArgumentException" U
section LAST
variable {p : Program} {l : Launch} {e : Env} {R : Room} {s : State} {m : MethodId} {args : Array Value} {below : List Frame} {meth : Method} {c : Code} {H : Heap} {locs : List Loc} {cells slots : Nat} {Q : State → Prop}
variable {cc : ByteArray} {pc : Nat} {ls : Array Slot} {rest : List Value} {D : va_G} {A : Nat → Prop} {H0 : Heap} {cy ad : Nat → Nat} {n : Nat} {M : Mm} {ex : va_W}
theorem wr_last (hexec : p.tables.exec = Jvm.exec) (hb : c.code = cc) (hK : va_K D vwCl (tyL cy) s) (hP : va_P D vwCl (wd cy ad n M ++ ex) H) (hD : ∀ M, va_D A (wd cy ad n M ++ ex)) (hS : va_S A H0 H locs) (hk : 154 < n) {x : Int32} (hdg : decode cc pc = .ok (.lastore, 1))
    (kk : ∀ (H1 : Heap) (locs1 : List Loc), va_P D vwCl (wd cy ad n (st M 154 0 x) ++ ex) H1 → va_S A H0 H1 locs1 → W p l e R s m args below meth c H1 locs1 cells slots Q (F0 m (pc + 1) ls rest)) : W p l e R s m args below meth c H locs cells slots Q (F0 m pc ls (.long x.toInt64 :: .int (nI 0) :: .ref (ad 154) :: rest)) := by
  refine va_last (D := D) (cl := vwCl) hexec hb hK hP (hD M) hS 154 2 (wd_at hk (g_154 cy ad _)) rfl (vn_ins rfl (by decide : 0 < 1) (by decide)) hdg (fun H1 locs1 hP1 _ hS1 => ?_)
  have e : vp_updL (fun j => (M 154 j).toInt64) (nI 0).toNatClampNeg x.toInt64 = fun j => (upd (M 154) 0 x j).toInt64 := by
    funext j
    show (if j = 0 then _ else _) = (if j = 0 then _ else _ : Int32).toInt64
    by_cases h : j = 0
    · rw [if_pos h, if_pos h]
    · rw [if_neg h, if_neg h]
  rw [e, wd_up hk (g_154 cy ad _)] at hP1
  exact kk H1 locs1 hP1 hS1
end LAST
set_option maxHeartbeats 1000000 in
set_option maxRecDepth 100000 in
theorem kL_member (l : Launch) {D : va_G} {cy ad : Nat → Nat} {n : Nat} {M : Mm} {A : Nat → Prop} (hD : ∀ M, va_D A (wd cy ad n M ++ [])) (hn : 155 ≤ n) {x0 : Int32} {P : Int32 → Mm → Prop} {X : String → Mm → Prop} (hXE : ∀ E u, X E u → E = "java/lang/IllegalArgumentException" ∨ E = "java/lang/IllegalStateException") (hM : vx_Met l yX5_member wsX5_member ({ frames := 6, cells := 1, slots := 6, locals := 86 }) (va_Pc [.ref (ad 0), .int x0] (TW D cy (wd cy ad n M ++ []) A)) (va_Qi (S := Mm) (fun r u => P r u) (fun u t => va_P D vwCl (wd cy ad n u ++ []) t.heap) A) (vx_X (S := Mm) (fun _ => True) (fun E u t => X E u ∧ va_P D vwCl (wd cy ad n u ++ []) t.heap) A) 1 6 A) : vx_Met l yL_member wsL_member ({ frames := 7, cells := 1, slots := 6, locals := 111 }) (va_Pc [.ref (ad 0), .int x0, .ref (ad 154)] (LW D cy (wd cy ad n M ++ []) A)) (va_Qi (S := Mm) (fun r u => (r = nI 0 ∧ ∃ w u0, P w u0 ∧ u = st u0 154 0 w) ∨ (r = nI 1 ∧ X "java/lang/IllegalArgumentException" u) ∨ (r = nI 2 ∧ X "java/lang/IllegalStateException" u)) (fun u t => va_P D vwCl (wd cy ad n u ++ []) t.heap) A) (vx_X (S := Mm) (fun _ => False) (fun _ _ _ => False) A) 1 6 A := by
  refine vx_ofWH (cc := cL_member) (maxL := 4) (ret := some .int) (hh := [(0, 9, 12, 13), (0, 9, 15, 15)]) (by decide) rfl ?_
  intro p e s m args below meth c s₁ B hml hv
  obtain ⟨rfl, ⟨hP, hE, hA, hX⟩, hN1, hN2, hN3, hN4⟩ := hv
  have hx := B.exec
  have hb := B.bytes
  have hr := B.returns
  have hts := atoms_spec (ws := wsL_member) B.pre
  have hown : s.vm.findClass RL = some m.cls := findClass_of_methodNamed B.named
  have htab := vx_table (x := yL_member) B (hts _ List.mem_cons_self)
  have hS : va_S A s.heap s.heap [] := va_S.rf
  have hl := lv_entry ([.ref (ad 0), .int x0, .ref (ad 154)]) (n := 4) (Nat.le_of_ble_eq_true rfl)
  rw [lg_entry_eq]
  generalize (lg_sl ([.ref (ad 0), .int x0, .ref (ad 154)]) ++ List.replicate (4 - (lg_sl ([.ref (ad 0), .int x0, .ref (ad 154)])).length) Slot.unset).toArray = ls at hl ⊢
  have hl : lv_has ls 4 [(0, .ref (ad 0)), (1, .int x0), (2, .ref (ad 154))] := hl
  refine lv_aload_n hx hb dL_member_0 rfl (lv_at hl 2 rfl) ?_
  refine lv_iconst (v := nI 0) hx hb dL_member_1 (by decide) ?_
  refine lv_aload_n hx hb dL_member_2 rfl (lv_at hl 0 rfl) ?_
  refine lv_iload_n hx hb dL_member_3 rfl (lv_at hl 1 rfl) ?_
  refine vx_calli (vx_runV (As := [.int x0]) (rest := [.int (nI 0), .ref (ad 154)]) ⟨hx, hb, hml, hown, hts⟩ hM (cwV 1 hts gL_member_X5_member rfl rfl rfl (by decide +kernel) ⟨Nat.le_of_ble_eq_true rfl, Nat.le_of_ble_eq_true rfl⟩) (tw_pv (ci := 4) (q := (RX5, TX5, 11)) hE hP hS hA hX rfl (wd_at (M := M) (show 0 < n by omega) (g_0 cy ad _))) rfl rfl hl.1 rfl (lv_room (Nat.le_of_ble_eq_true rfl)) dL_member_4 ⟨Nat.le_of_ble_eq_true rfl, Nat.le_of_ble_eq_true rfl⟩) hS (fun q _ h => h) (fun q h => h) (fun q _ h => h) (fun E9 ce q9 u t H1 locs1 ht hvm hpx hBX hz1 hk1 hS hce hcv hcl => ?_) (fun w u t H1 locs ht hvm hr_3 hB_3 hz1 hk1 hS => ?_)
  · obtain ⟨hxe, hPB⟩ := hBX
    rcases hXE _ _ hxe with rfl | rfl
    · refine vx_catch hown [] { startPc := 0, endPc := 9, handlerPc := 12, catchType := 13 } [{ startPc := 0, endPc := 9, handlerPc := 15, catchType := 15 }] (by rw [htab]; rfl) (fun z hz => nomatch hz) rfl (by decide) (hts (.classLink RL 13 "java/lang/IllegalArgumentException") (by decide +kernel)) (ex_u hX (List.mem_of_getElem? (i := 0) rfl) _ (List.mem_of_getElem? (i := 3) rfl)) hce hcv hcl ?_
      refine lv_astore_n (lv' := [(3, .ref q9), (0, .ref (ad 0)), (1, .int x0), (2, .ref (ad 154))]) hx hb dL_member_12 rfl hl (by decide) rfl (fun ls hl => ?_)
      refine lv_iconst (v := nI 1) hx hb dL_member_13 (by decide) ?_
      refine vx_ret ?_
      exact W.iret (v := nI 1) hx hb hr (fun t2 ht2 hW => ⟨⟨nI 1, u, rfl, Or.inr (Or.inl ⟨rfl, hxe⟩), (by show va_P D vwCl _ t2.heap; rw [ht2, ← ht]; exact hPB)⟩, hS.F ht2⟩) hS.2.2 dL_member_14
    · refine vx_catch hown [{ startPc := 0, endPc := 9, handlerPc := 12, catchType := 13 }] { startPc := 0, endPc := 9, handlerPc := 15, catchType := 15 } [] (by rw [htab]; rfl) (fun z hz => (fun hz => (List.mem_cons.mp hz).elim (fun e9 => by subst e9; exact Or.inr ⟨by decide, _, hts (.classLink RL 13 "java/lang/IllegalArgumentException") (by decide +kernel), hN1⟩) (fun hz => nomatch hz)) hz) rfl (by decide) (hts (.classLink RL 15 "java/lang/IllegalStateException") (by decide +kernel)) (ex_u hX (List.mem_of_getElem? (i := 1) rfl) _ (List.mem_of_getElem? (i := 3) rfl)) hce hcv hcl ?_
      refine lv_astore_n (lv' := [(3, .ref q9), (0, .ref (ad 0)), (1, .int x0), (2, .ref (ad 154))]) hx hb dL_member_15 rfl hl (by decide) rfl (fun ls hl => ?_)
      refine lv_iconst (v := nI 2) hx hb dL_member_16 (by decide) ?_
      refine vx_ret ?_
      exact W.iret (v := nI 2) hx hb hr (fun t2 ht2 hW => ⟨⟨nI 2, u, rfl, Or.inr (Or.inr (⟨rfl, hxe⟩)), (by show va_P D vwCl _ t2.heap; rw [ht2, ← ht]; exact hPB)⟩, hS.F ht2⟩) hS.2.2 dL_member_17
  · refine lv_i2l hx hb dL_member_7 rfl ?_
    refine wr_last (x := w) hx hb hE.1 (by rw [← ht]; exact hB_3) hD hS (by omega) dL_member_8 (fun H2 locs2 hP2 hS => ?_)
    refine lv_goto (tgt := 18) hx hb dL_member_9 (by decide) ?_
    refine lv_iconst (v := nI 0) hx hb dL_member_18 (by decide) ?_
    refine vx_ret ?_
    exact W.iret (v := nI 0) hx hb hr (fun t2 ht2 hW => ⟨⟨nI 0, st u 154 0 w, rfl, Or.inl ⟨rfl, w, u, hr_3, rfl⟩, (by show va_P D vwCl _ t2.heap; rw [ht2]; exact hP2)⟩, hS.F ht2⟩) hS.2.2 dL_member_19

set_option maxHeartbeats 1000000 in
set_option maxRecDepth 100000 in
theorem kL_key (l : Launch) {D : va_G} {cy ad : Nat → Nat} {n : Nat} {M : Mm} {A : Nat → Prop} (hD : ∀ M, va_D A (wd cy ad n M ++ [])) (hn : 155 ≤ n) {x0 : Int32} {P : Int32 → Mm → Prop} {X : String → Mm → Prop} (hXE : ∀ E u, X E u → E = "java/lang/IllegalArgumentException") (hM : vx_Met l yX5_key wsX5_key ({ frames := 6, cells := 1, slots := 6, locals := 86 }) (va_Pc [.ref (ad 0), .int x0] (TW D cy (wd cy ad n M ++ []) A)) (va_Qi (S := Mm) (fun r u => P r u) (fun u t => va_P D vwCl (wd cy ad n u ++ []) t.heap) A) (vx_X (S := Mm) (fun _ => True) (fun E u t => X E u ∧ va_P D vwCl (wd cy ad n u ++ []) t.heap) A) 1 6 A) : vx_Met l yL_key wsL_key ({ frames := 7, cells := 1, slots := 6, locals := 111 }) (va_Pc [.ref (ad 0), .int x0, .ref (ad 154)] (LW D cy (wd cy ad n M ++ []) A)) (va_Qi (S := Mm) (fun r u => (r = nI 0 ∧ ∃ w u0, P w u0 ∧ u = st u0 154 0 w) ∨ (r = nI 1 ∧ X "java/lang/IllegalArgumentException" u)) (fun u t => va_P D vwCl (wd cy ad n u ++ []) t.heap) A) (vx_X (S := Mm) (fun _ => False) (fun _ _ _ => False) A) 1 6 A := by
  refine vx_ofWH (cc := cL_key) (maxL := 4) (ret := some .int) (hh := [(0, 9, 12, 13)]) (by decide) rfl ?_
  intro p e s m args below meth c s₁ B hml hv
  obtain ⟨rfl, ⟨hP, hE, hA, hX⟩, hN1, hN2, hN3, hN4⟩ := hv
  have hx := B.exec
  have hb := B.bytes
  have hr := B.returns
  have hts := atoms_spec (ws := wsL_key) B.pre
  have hown : s.vm.findClass RL = some m.cls := findClass_of_methodNamed B.named
  have htab := vx_table (x := yL_key) B (hts _ List.mem_cons_self)
  have hS : va_S A s.heap s.heap [] := va_S.rf
  have hl := lv_entry ([.ref (ad 0), .int x0, .ref (ad 154)]) (n := 4) (Nat.le_of_ble_eq_true rfl)
  rw [lg_entry_eq]
  generalize (lg_sl ([.ref (ad 0), .int x0, .ref (ad 154)]) ++ List.replicate (4 - (lg_sl ([.ref (ad 0), .int x0, .ref (ad 154)])).length) Slot.unset).toArray = ls at hl ⊢
  have hl : lv_has ls 4 [(0, .ref (ad 0)), (1, .int x0), (2, .ref (ad 154))] := hl
  refine lv_aload_n hx hb dL_key_0 rfl (lv_at hl 2 rfl) ?_
  refine lv_iconst (v := nI 0) hx hb dL_key_1 (by decide) ?_
  refine lv_aload_n hx hb dL_key_2 rfl (lv_at hl 0 rfl) ?_
  refine lv_iload_n hx hb dL_key_3 rfl (lv_at hl 1 rfl) ?_
  refine vx_calli (vx_runV (As := [.int x0]) (rest := [.int (nI 0), .ref (ad 154)]) ⟨hx, hb, hml, hown, hts⟩ hM (cwV 1 hts gL_key_X5_key rfl rfl rfl (by decide +kernel) ⟨Nat.le_of_ble_eq_true rfl, Nat.le_of_ble_eq_true rfl⟩) (tw_pv (ci := 4) (q := (RX5, TX5, 11)) hE hP hS hA hX rfl (wd_at (M := M) (show 0 < n by omega) (g_0 cy ad _))) rfl rfl hl.1 rfl (lv_room (Nat.le_of_ble_eq_true rfl)) dL_key_4 ⟨Nat.le_of_ble_eq_true rfl, Nat.le_of_ble_eq_true rfl⟩) hS (fun q _ h => h) (fun q h => h) (fun q _ h => h) (fun E9 ce q9 u t H1 locs1 ht hvm hpx hBX hz1 hk1 hS hce hcv hcl => ?_) (fun w u t H1 locs ht hvm hr_3 hB_3 hz1 hk1 hS => ?_)
  · obtain ⟨hxe, hPB⟩ := hBX
    rcases hXE _ _ hxe with rfl
    · refine vx_catch hown [] { startPc := 0, endPc := 9, handlerPc := 12, catchType := 13 } [] (by rw [htab]; rfl) (fun z hz => nomatch hz) rfl (by decide) (hts (.classLink RL 13 "java/lang/IllegalArgumentException") (by decide +kernel)) (ex_u hX (List.mem_of_getElem? (i := 0) rfl) _ (List.mem_of_getElem? (i := 3) rfl)) hce hcv hcl ?_
      refine lv_astore_n (lv' := [(3, .ref q9), (0, .ref (ad 0)), (1, .int x0), (2, .ref (ad 154))]) hx hb dL_key_12 rfl hl (by decide) rfl (fun ls hl => ?_)
      refine lv_iconst (v := nI 1) hx hb dL_key_13 (by decide) ?_
      refine vx_ret ?_
      exact W.iret (v := nI 1) hx hb hr (fun t2 ht2 hW => ⟨⟨nI 1, u, rfl, Or.inr (⟨rfl, hxe⟩), (by show va_P D vwCl _ t2.heap; rw [ht2, ← ht]; exact hPB)⟩, hS.F ht2⟩) hS.2.2 dL_key_14
  · refine lv_i2l hx hb dL_key_7 rfl ?_
    refine wr_last (x := w) hx hb hE.1 (by rw [← ht]; exact hB_3) hD hS (by omega) dL_key_8 (fun H2 locs2 hP2 hS => ?_)
    refine lv_goto (tgt := 15) hx hb dL_key_9 (by decide) ?_
    refine lv_iconst (v := nI 0) hx hb dL_key_15 (by decide) ?_
    refine vx_ret ?_
    exact W.iret (v := nI 0) hx hb hr (fun t2 ht2 hW => ⟨⟨nI 0, st u 154 0 w, rfl, Or.inl ⟨rfl, w, u, hr_3, rfl⟩, (by show va_P D vwCl _ t2.heap; rw [ht2]; exact hP2)⟩, hS.F ht2⟩) hS.2.2 dL_key_16

set_option maxHeartbeats 1000000 in
set_option maxRecDepth 100000 in
theorem kL_ring (l : Launch) {D : va_G} {cy ad : Nat → Nat} {n : Nat} {M : Mm} {A : Nat → Prop} (hD : ∀ M, va_D A (wd cy ad n M ++ [])) (hn : 155 ≤ n) {x0 : Int32} {P : Int32 → Mm → Prop} {X : String → Mm → Prop} (hXE : ∀ E u, X E u → E = "java/lang/IllegalArgumentException" ∨ E = "java/lang/IllegalStateException") (hM : vx_Met l yX5_ring wsX5_ring ({ frames := 6, cells := 1, slots := 6, locals := 86 }) (va_Pc [.ref (ad 0), .int x0] (TW D cy (wd cy ad n M ++ []) A)) (va_Qi (S := Mm) (fun r u => P r u) (fun u t => va_P D vwCl (wd cy ad n u ++ []) t.heap) A) (vx_X (S := Mm) (fun _ => True) (fun E u t => X E u ∧ va_P D vwCl (wd cy ad n u ++ []) t.heap) A) 1 6 A) : vx_Met l yL_ring wsL_ring ({ frames := 7, cells := 1, slots := 6, locals := 111 }) (va_Pc [.ref (ad 0), .int x0, .ref (ad 154)] (LW D cy (wd cy ad n M ++ []) A)) (va_Qi (S := Mm) (fun r u => (r = nI 0 ∧ ∃ w u0, P w u0 ∧ u = st u0 154 0 w) ∨ (r = nI 1 ∧ X "java/lang/IllegalArgumentException" u) ∨ (r = nI 2 ∧ X "java/lang/IllegalStateException" u)) (fun u t => va_P D vwCl (wd cy ad n u ++ []) t.heap) A) (vx_X (S := Mm) (fun _ => False) (fun _ _ _ => False) A) 1 6 A := by
  refine vx_ofWH (cc := cL_ring) (maxL := 4) (ret := some .int) (hh := [(0, 9, 12, 13), (0, 9, 15, 15)]) (by decide) rfl ?_
  intro p e s m args below meth c s₁ B hml hv
  obtain ⟨rfl, ⟨hP, hE, hA, hX⟩, hN1, hN2, hN3, hN4⟩ := hv
  have hx := B.exec
  have hb := B.bytes
  have hr := B.returns
  have hts := atoms_spec (ws := wsL_ring) B.pre
  have hown : s.vm.findClass RL = some m.cls := findClass_of_methodNamed B.named
  have htab := vx_table (x := yL_ring) B (hts _ List.mem_cons_self)
  have hS : va_S A s.heap s.heap [] := va_S.rf
  have hl := lv_entry ([.ref (ad 0), .int x0, .ref (ad 154)]) (n := 4) (Nat.le_of_ble_eq_true rfl)
  rw [lg_entry_eq]
  generalize (lg_sl ([.ref (ad 0), .int x0, .ref (ad 154)]) ++ List.replicate (4 - (lg_sl ([.ref (ad 0), .int x0, .ref (ad 154)])).length) Slot.unset).toArray = ls at hl ⊢
  have hl : lv_has ls 4 [(0, .ref (ad 0)), (1, .int x0), (2, .ref (ad 154))] := hl
  refine lv_aload_n hx hb dL_ring_0 rfl (lv_at hl 2 rfl) ?_
  refine lv_iconst (v := nI 0) hx hb dL_ring_1 (by decide) ?_
  refine lv_aload_n hx hb dL_ring_2 rfl (lv_at hl 0 rfl) ?_
  refine lv_iload_n hx hb dL_ring_3 rfl (lv_at hl 1 rfl) ?_
  refine vx_calli (vx_runV (As := [.int x0]) (rest := [.int (nI 0), .ref (ad 154)]) ⟨hx, hb, hml, hown, hts⟩ hM (cwV 1 hts gL_ring_X5_ring rfl rfl rfl (by decide +kernel) ⟨Nat.le_of_ble_eq_true rfl, Nat.le_of_ble_eq_true rfl⟩) (tw_pv (ci := 4) (q := (RX5, TX5, 11)) hE hP hS hA hX rfl (wd_at (M := M) (show 0 < n by omega) (g_0 cy ad _))) rfl rfl hl.1 rfl (lv_room (Nat.le_of_ble_eq_true rfl)) dL_ring_4 ⟨Nat.le_of_ble_eq_true rfl, Nat.le_of_ble_eq_true rfl⟩) hS (fun q _ h => h) (fun q h => h) (fun q _ h => h) (fun E9 ce q9 u t H1 locs1 ht hvm hpx hBX hz1 hk1 hS hce hcv hcl => ?_) (fun w u t H1 locs ht hvm hr_3 hB_3 hz1 hk1 hS => ?_)
  · obtain ⟨hxe, hPB⟩ := hBX
    rcases hXE _ _ hxe with rfl | rfl
    · refine vx_catch hown [] { startPc := 0, endPc := 9, handlerPc := 12, catchType := 13 } [{ startPc := 0, endPc := 9, handlerPc := 15, catchType := 15 }] (by rw [htab]; rfl) (fun z hz => nomatch hz) rfl (by decide) (hts (.classLink RL 13 "java/lang/IllegalArgumentException") (by decide +kernel)) (ex_u hX (List.mem_of_getElem? (i := 0) rfl) _ (List.mem_of_getElem? (i := 3) rfl)) hce hcv hcl ?_
      refine lv_astore_n (lv' := [(3, .ref q9), (0, .ref (ad 0)), (1, .int x0), (2, .ref (ad 154))]) hx hb dL_ring_12 rfl hl (by decide) rfl (fun ls hl => ?_)
      refine lv_iconst (v := nI 1) hx hb dL_ring_13 (by decide) ?_
      refine vx_ret ?_
      exact W.iret (v := nI 1) hx hb hr (fun t2 ht2 hW => ⟨⟨nI 1, u, rfl, Or.inr (Or.inl ⟨rfl, hxe⟩), (by show va_P D vwCl _ t2.heap; rw [ht2, ← ht]; exact hPB)⟩, hS.F ht2⟩) hS.2.2 dL_ring_14
    · refine vx_catch hown [{ startPc := 0, endPc := 9, handlerPc := 12, catchType := 13 }] { startPc := 0, endPc := 9, handlerPc := 15, catchType := 15 } [] (by rw [htab]; rfl) (fun z hz => (fun hz => (List.mem_cons.mp hz).elim (fun e9 => by subst e9; exact Or.inr ⟨by decide, _, hts (.classLink RL 13 "java/lang/IllegalArgumentException") (by decide +kernel), hN1⟩) (fun hz => nomatch hz)) hz) rfl (by decide) (hts (.classLink RL 15 "java/lang/IllegalStateException") (by decide +kernel)) (ex_u hX (List.mem_of_getElem? (i := 1) rfl) _ (List.mem_of_getElem? (i := 3) rfl)) hce hcv hcl ?_
      refine lv_astore_n (lv' := [(3, .ref q9), (0, .ref (ad 0)), (1, .int x0), (2, .ref (ad 154))]) hx hb dL_ring_15 rfl hl (by decide) rfl (fun ls hl => ?_)
      refine lv_iconst (v := nI 2) hx hb dL_ring_16 (by decide) ?_
      refine vx_ret ?_
      exact W.iret (v := nI 2) hx hb hr (fun t2 ht2 hW => ⟨⟨nI 2, u, rfl, Or.inr (Or.inr (⟨rfl, hxe⟩)), (by show va_P D vwCl _ t2.heap; rw [ht2, ← ht]; exact hPB)⟩, hS.F ht2⟩) hS.2.2 dL_ring_17
  · refine lv_i2l hx hb dL_ring_7 rfl ?_
    refine wr_last (x := w) hx hb hE.1 (by rw [← ht]; exact hB_3) hD hS (by omega) dL_ring_8 (fun H2 locs2 hP2 hS => ?_)
    refine lv_goto (tgt := 18) hx hb dL_ring_9 (by decide) ?_
    refine lv_iconst (v := nI 0) hx hb dL_ring_18 (by decide) ?_
    refine vx_ret ?_
    exact W.iret (v := nI 0) hx hb hr (fun t2 ht2 hW => ⟨⟨nI 0, st u 154 0 w, rfl, Or.inl ⟨rfl, w, u, hr_3, rfl⟩, (by show va_P D vwCl _ t2.heap; rw [ht2]; exact hP2)⟩, hS.F ht2⟩) hS.2.2 dL_ring_19

set_option maxHeartbeats 1000000 in
set_option maxRecDepth 100000 in
theorem kL_topic (l : Launch) {D : va_G} {cy ad : Nat → Nat} {n : Nat} {M : Mm} {A : Nat → Prop} (hD : ∀ M, va_D A (wd cy ad n M ++ [])) (hn : 155 ≤ n) {x0 : Int32} {P : Int32 → Mm → Prop} {X : String → Mm → Prop} (hXE : ∀ E u, X E u → E = "java/lang/IllegalStateException") (hM : vx_Met l yX5_topic wsX5_topic ({ frames := 6, cells := 1, slots := 6, locals := 88 }) (va_Pc [.ref (ad 0), .int x0] (TW D cy (wd cy ad n M ++ []) A)) (va_Qi (S := Mm) (fun r u => P r u) (fun u t => va_P D vwCl (wd cy ad n u ++ []) t.heap) A) (vx_X (S := Mm) (fun _ => True) (fun E u t => X E u ∧ va_P D vwCl (wd cy ad n u ++ []) t.heap) A) 1 6 A) : vx_Met l yL_topic wsL_topic ({ frames := 7, cells := 1, slots := 6, locals := 113 }) (va_Pc [.ref (ad 0), .int x0, .ref (ad 154)] (LW D cy (wd cy ad n M ++ []) A)) (va_Qi (S := Mm) (fun r u => (r = nI 0 ∧ ∃ w u0, P w u0 ∧ u = st u0 154 0 w) ∨ (r = nI 1 ∧ X "java/lang/IllegalStateException" u)) (fun u t => va_P D vwCl (wd cy ad n u ++ []) t.heap) A) (vx_X (S := Mm) (fun _ => False) (fun _ _ _ => False) A) 1 6 A := by
  refine vx_ofWH (cc := cL_topic) (maxL := 4) (ret := some .int) (hh := [(0, 9, 12, 15)]) (by decide) rfl ?_
  intro p e s m args below meth c s₁ B hml hv
  obtain ⟨rfl, ⟨hP, hE, hA, hX⟩, hN1, hN2, hN3, hN4⟩ := hv
  have hx := B.exec
  have hb := B.bytes
  have hr := B.returns
  have hts := atoms_spec (ws := wsL_topic) B.pre
  have hown : s.vm.findClass RL = some m.cls := findClass_of_methodNamed B.named
  have htab := vx_table (x := yL_topic) B (hts _ List.mem_cons_self)
  have hS : va_S A s.heap s.heap [] := va_S.rf
  have hl := lv_entry ([.ref (ad 0), .int x0, .ref (ad 154)]) (n := 4) (Nat.le_of_ble_eq_true rfl)
  rw [lg_entry_eq]
  generalize (lg_sl ([.ref (ad 0), .int x0, .ref (ad 154)]) ++ List.replicate (4 - (lg_sl ([.ref (ad 0), .int x0, .ref (ad 154)])).length) Slot.unset).toArray = ls at hl ⊢
  have hl : lv_has ls 4 [(0, .ref (ad 0)), (1, .int x0), (2, .ref (ad 154))] := hl
  refine lv_aload_n hx hb dL_topic_0 rfl (lv_at hl 2 rfl) ?_
  refine lv_iconst (v := nI 0) hx hb dL_topic_1 (by decide) ?_
  refine lv_aload_n hx hb dL_topic_2 rfl (lv_at hl 0 rfl) ?_
  refine lv_iload_n hx hb dL_topic_3 rfl (lv_at hl 1 rfl) ?_
  refine vx_calli (vx_runV (As := [.int x0]) (rest := [.int (nI 0), .ref (ad 154)]) ⟨hx, hb, hml, hown, hts⟩ hM (cwV 1 hts gL_topic_X5_topic rfl rfl rfl (by decide +kernel) ⟨Nat.le_of_ble_eq_true rfl, Nat.le_of_ble_eq_true rfl⟩) (tw_pv (ci := 4) (q := (RX5, TX5, 11)) hE hP hS hA hX rfl (wd_at (M := M) (show 0 < n by omega) (g_0 cy ad _))) rfl rfl hl.1 rfl (lv_room (Nat.le_of_ble_eq_true rfl)) dL_topic_4 ⟨Nat.le_of_ble_eq_true rfl, Nat.le_of_ble_eq_true rfl⟩) hS (fun q _ h => h) (fun q h => h) (fun q _ h => h) (fun E9 ce q9 u t H1 locs1 ht hvm hpx hBX hz1 hk1 hS hce hcv hcl => ?_) (fun w u t H1 locs ht hvm hr_3 hB_3 hz1 hk1 hS => ?_)
  · obtain ⟨hxe, hPB⟩ := hBX
    rcases hXE _ _ hxe with rfl
    · refine vx_catch hown [] { startPc := 0, endPc := 9, handlerPc := 12, catchType := 15 } [] (by rw [htab]; rfl) (fun z hz => nomatch hz) rfl (by decide) (hts (.classLink RL 15 "java/lang/IllegalStateException") (by decide +kernel)) (ex_u hX (List.mem_of_getElem? (i := 1) rfl) _ (List.mem_of_getElem? (i := 3) rfl)) hce hcv hcl ?_
      refine lv_astore_n (lv' := [(3, .ref q9), (0, .ref (ad 0)), (1, .int x0), (2, .ref (ad 154))]) hx hb dL_topic_12 rfl hl (by decide) rfl (fun ls hl => ?_)
      refine lv_iconst (v := nI 1) hx hb dL_topic_13 (by decide) ?_
      refine vx_ret ?_
      exact W.iret (v := nI 1) hx hb hr (fun t2 ht2 hW => ⟨⟨nI 1, u, rfl, Or.inr (⟨rfl, hxe⟩), (by show va_P D vwCl _ t2.heap; rw [ht2, ← ht]; exact hPB)⟩, hS.F ht2⟩) hS.2.2 dL_topic_14
  · refine lv_i2l hx hb dL_topic_7 rfl ?_
    refine wr_last (x := w) hx hb hE.1 (by rw [← ht]; exact hB_3) hD hS (by omega) dL_topic_8 (fun H2 locs2 hP2 hS => ?_)
    refine lv_goto (tgt := 15) hx hb dL_topic_9 (by decide) ?_
    refine lv_iconst (v := nI 0) hx hb dL_topic_15 (by decide) ?_
    refine vx_ret ?_
    exact W.iret (v := nI 0) hx hb hr (fun t2 ht2 hW => ⟨⟨nI 0, st u 154 0 w, rfl, Or.inl ⟨rfl, w, u, hr_3, rfl⟩, (by show va_P D vwCl _ t2.heap; rw [ht2]; exact hP2)⟩, hS.F ht2⟩) hS.2.2 dL_topic_16

set_option maxHeartbeats 1000000 in
set_option maxRecDepth 100000 in
theorem kL_base (l : Launch) {D : va_G} {cy ad : Nat → Nat} {n : Nat} {M : Mm} {A : Nat → Prop} (hD : ∀ M, va_D A (wd cy ad n M ++ [])) (hn : 155 ≤ n) {x0 : Int32} {P : Int32 → Mm → Prop} {X : String → Mm → Prop} (hXE : ∀ E u, X E u → E = "java/lang/IllegalArgumentException") (hM : vx_Met l yX5_base wsX5_base ({ frames := 7, cells := 1, slots := 6, locals := 107 }) (va_Pc [.ref (ad 0), .int x0] (TW D cy (wd cy ad n M ++ []) A)) (va_Qi (S := Mm) (fun r u => P r u) (fun u t => va_P D vwCl (wd cy ad n u ++ []) t.heap) A) (vx_X (S := Mm) (fun _ => True) (fun E u t => X E u ∧ va_P D vwCl (wd cy ad n u ++ []) t.heap) A) 1 6 A) : vx_Met l yL_base wsL_base ({ frames := 8, cells := 1, slots := 6, locals := 132 }) (va_Pc [.ref (ad 0), .int x0, .ref (ad 154)] (LW D cy (wd cy ad n M ++ []) A)) (va_Qi (S := Mm) (fun r u => (r = nI 0 ∧ ∃ w u0, P w u0 ∧ u = st u0 154 0 w) ∨ (r = nI 1 ∧ X "java/lang/IllegalArgumentException" u)) (fun u t => va_P D vwCl (wd cy ad n u ++ []) t.heap) A) (vx_X (S := Mm) (fun _ => False) (fun _ _ _ => False) A) 1 6 A := by
  refine vx_ofWH (cc := cL_base) (maxL := 4) (ret := some .int) (hh := [(0, 9, 12, 13)]) (by decide) rfl ?_
  intro p e s m args below meth c s₁ B hml hv
  obtain ⟨rfl, ⟨hP, hE, hA, hX⟩, hN1, hN2, hN3, hN4⟩ := hv
  have hx := B.exec
  have hb := B.bytes
  have hr := B.returns
  have hts := atoms_spec (ws := wsL_base) B.pre
  have hown : s.vm.findClass RL = some m.cls := findClass_of_methodNamed B.named
  have htab := vx_table (x := yL_base) B (hts _ List.mem_cons_self)
  have hS : va_S A s.heap s.heap [] := va_S.rf
  have hl := lv_entry ([.ref (ad 0), .int x0, .ref (ad 154)]) (n := 4) (Nat.le_of_ble_eq_true rfl)
  rw [lg_entry_eq]
  generalize (lg_sl ([.ref (ad 0), .int x0, .ref (ad 154)]) ++ List.replicate (4 - (lg_sl ([.ref (ad 0), .int x0, .ref (ad 154)])).length) Slot.unset).toArray = ls at hl ⊢
  have hl : lv_has ls 4 [(0, .ref (ad 0)), (1, .int x0), (2, .ref (ad 154))] := hl
  refine lv_aload_n hx hb dL_base_0 rfl (lv_at hl 2 rfl) ?_
  refine lv_iconst (v := nI 0) hx hb dL_base_1 (by decide) ?_
  refine lv_aload_n hx hb dL_base_2 rfl (lv_at hl 0 rfl) ?_
  refine lv_iload_n hx hb dL_base_3 rfl (lv_at hl 1 rfl) ?_
  refine vx_calli (vx_runV (As := [.int x0]) (rest := [.int (nI 0), .ref (ad 154)]) ⟨hx, hb, hml, hown, hts⟩ hM (cwV 1 hts gL_base_X5_base rfl rfl rfl (by decide +kernel) ⟨Nat.le_of_ble_eq_true rfl, Nat.le_of_ble_eq_true rfl⟩) (tw_pv (ci := 4) (q := (RX5, TX5, 11)) hE hP hS hA hX rfl (wd_at (M := M) (show 0 < n by omega) (g_0 cy ad _))) rfl rfl hl.1 rfl (lv_room (Nat.le_of_ble_eq_true rfl)) dL_base_4 ⟨Nat.le_of_ble_eq_true rfl, Nat.le_of_ble_eq_true rfl⟩) hS (fun q _ h => h) (fun q h => h) (fun q _ h => h) (fun E9 ce q9 u t H1 locs1 ht hvm hpx hBX hz1 hk1 hS hce hcv hcl => ?_) (fun w u t H1 locs ht hvm hr_3 hB_3 hz1 hk1 hS => ?_)
  · obtain ⟨hxe, hPB⟩ := hBX
    rcases hXE _ _ hxe with rfl
    · refine vx_catch hown [] { startPc := 0, endPc := 9, handlerPc := 12, catchType := 13 } [] (by rw [htab]; rfl) (fun z hz => nomatch hz) rfl (by decide) (hts (.classLink RL 13 "java/lang/IllegalArgumentException") (by decide +kernel)) (ex_u hX (List.mem_of_getElem? (i := 0) rfl) _ (List.mem_of_getElem? (i := 3) rfl)) hce hcv hcl ?_
      refine lv_astore_n (lv' := [(3, .ref q9), (0, .ref (ad 0)), (1, .int x0), (2, .ref (ad 154))]) hx hb dL_base_12 rfl hl (by decide) rfl (fun ls hl => ?_)
      refine lv_iconst (v := nI 1) hx hb dL_base_13 (by decide) ?_
      refine vx_ret ?_
      exact W.iret (v := nI 1) hx hb hr (fun t2 ht2 hW => ⟨⟨nI 1, u, rfl, Or.inr (⟨rfl, hxe⟩), (by show va_P D vwCl _ t2.heap; rw [ht2, ← ht]; exact hPB)⟩, hS.F ht2⟩) hS.2.2 dL_base_14
  · refine lv_i2l hx hb dL_base_7 rfl ?_
    refine wr_last (x := w) hx hb hE.1 (by rw [← ht]; exact hB_3) hD hS (by omega) dL_base_8 (fun H2 locs2 hP2 hS => ?_)
    refine lv_goto (tgt := 15) hx hb dL_base_9 (by decide) ?_
    refine lv_iconst (v := nI 0) hx hb dL_base_15 (by decide) ?_
    refine vx_ret ?_
    exact W.iret (v := nI 0) hx hb hr (fun t2 ht2 hW => ⟨⟨nI 0, st u 154 0 w, rfl, Or.inl ⟨rfl, w, u, hr_3, rfl⟩, (by show va_P D vwCl _ t2.heap; rw [ht2]; exact hP2)⟩, hS.F ht2⟩) hS.2.2 dL_base_16

set_option maxHeartbeats 1000000 in
set_option maxRecDepth 100000 in
theorem kL_sign (l : Launch) {D : va_G} {cy ad : Nat → Nat} {n : Nat} {M : Mm} {A : Nat → Prop} (hD : ∀ M, va_D A (wd cy ad n M ++ [])) (hn : 155 ≤ n) {x0 x1 x2 x3 x4 : Int32} {P : Int32 → Mm → Prop} {X : String → Mm → Prop} (hXE : ∀ E u, X E u → E = "java/lang/IllegalArgumentException") (hM : vx_Met l yX5_sign wsX5_sign ({ frames := 7, cells := 3, slots := 18, locals := 107 }) (va_Pc [.ref (ad 0), .int x0, .int x1, .int x2, .int x3, .int x4] (TW D cy (wd cy ad n M ++ []) A)) (va_Qi (S := Mm) (fun r u => P r u) (fun u t => va_P D vwCl (wd cy ad n u ++ []) t.heap) A) (vx_X (S := Mm) (fun _ => True) (fun E u t => X E u ∧ va_P D vwCl (wd cy ad n u ++ []) t.heap) A) 3 18 A) : vx_Met l yL_sign wsL_sign ({ frames := 8, cells := 3, slots := 18, locals := 142 }) (va_Pc [.ref (ad 0), .int x0, .int x1, .int x2, .int x3, .int x4, .ref (ad 154)] (LW D cy (wd cy ad n M ++ []) A)) (va_Qi (S := Mm) (fun r u => (r = nI 0 ∧ ∃ w u0, P w u0 ∧ u = st u0 154 0 w) ∨ (r = nI 1 ∧ X "java/lang/IllegalArgumentException" u)) (fun u t => va_P D vwCl (wd cy ad n u ++ []) t.heap) A) (vx_X (S := Mm) (fun _ => False) (fun _ _ _ => False) A) 3 18 A := by
  refine vx_ofWH (cc := cL_sign) (maxL := 8) (ret := some .int) (hh := [(0, 16, 19, 13)]) (by decide) rfl ?_
  intro p e s m args below meth c s₁ B hml hv
  obtain ⟨rfl, ⟨hP, hE, hA, hX⟩, hN1, hN2, hN3, hN4⟩ := hv
  have hx := B.exec
  have hb := B.bytes
  have hr := B.returns
  have hts := atoms_spec (ws := wsL_sign) B.pre
  have hown : s.vm.findClass RL = some m.cls := findClass_of_methodNamed B.named
  have htab := vx_table (x := yL_sign) B (hts _ List.mem_cons_self)
  have hS : va_S A s.heap s.heap [] := va_S.rf
  have hl := lv_entry ([.ref (ad 0), .int x0, .int x1, .int x2, .int x3, .int x4, .ref (ad 154)]) (n := 8) (Nat.le_of_ble_eq_true rfl)
  rw [lg_entry_eq]
  generalize (lg_sl ([.ref (ad 0), .int x0, .int x1, .int x2, .int x3, .int x4, .ref (ad 154)]) ++ List.replicate (8 - (lg_sl ([.ref (ad 0), .int x0, .int x1, .int x2, .int x3, .int x4, .ref (ad 154)])).length) Slot.unset).toArray = ls at hl ⊢
  have hl : lv_has ls 8 [(0, .ref (ad 0)), (1, .int x0), (2, .int x1), (3, .int x2), (4, .int x3), (5, .int x4), (6, .ref (ad 154))] := hl
  refine lv_aload hx hb dL_sign_0 (lv_at hl 6 rfl) ?_
  refine lv_iconst (v := nI 0) hx hb dL_sign_2 (by decide) ?_
  refine lv_aload_n hx hb dL_sign_3 rfl (lv_at hl 0 rfl) ?_
  refine lv_iload_n hx hb dL_sign_4 rfl (lv_at hl 1 rfl) ?_
  refine lv_iload_n hx hb dL_sign_5 rfl (lv_at hl 2 rfl) ?_
  refine lv_iload_n hx hb dL_sign_6 rfl (lv_at hl 3 rfl) ?_
  refine lv_iload hx hb dL_sign_7 (lv_at hl 4 rfl) ?_
  refine lv_iload hx hb dL_sign_9 (lv_at hl 5 rfl) ?_
  refine vx_calli (vx_runV (As := [.int x0, .int x1, .int x2, .int x3, .int x4]) (rest := [.int (nI 0), .ref (ad 154)]) ⟨hx, hb, hml, hown, hts⟩ hM (cwV 5 hts gL_sign_X5_sign rfl rfl rfl (by decide +kernel) ⟨Nat.le_of_ble_eq_true rfl, Nat.le_of_ble_eq_true rfl⟩) (tw_pv (ci := 4) (q := (RX5, TX5, 11)) hE hP hS hA hX rfl (wd_at (M := M) (show 0 < n by omega) (g_0 cy ad _))) rfl rfl hl.1 rfl (lv_room (Nat.le_of_ble_eq_true rfl)) dL_sign_11 ⟨Nat.le_of_ble_eq_true rfl, Nat.le_of_ble_eq_true rfl⟩) hS (fun q _ h => h) (fun q h => h) (fun q _ h => h) (fun E9 ce q9 u t H1 locs1 ht hvm hpx hBX hz1 hk1 hS hce hcv hcl => ?_) (fun w u t H1 locs ht hvm hr_3 hB_3 hz1 hk1 hS => ?_)
  · obtain ⟨hxe, hPB⟩ := hBX
    rcases hXE _ _ hxe with rfl
    · refine vx_catch hown [] { startPc := 0, endPc := 16, handlerPc := 19, catchType := 13 } [] (by rw [htab]; rfl) (fun z hz => nomatch hz) rfl (by decide) (hts (.classLink RL 13 "java/lang/IllegalArgumentException") (by decide +kernel)) (ex_u hX (List.mem_of_getElem? (i := 0) rfl) _ (List.mem_of_getElem? (i := 3) rfl)) hce hcv hcl ?_
      refine lv_astore (lv' := [(7, .ref q9), (0, .ref (ad 0)), (1, .int x0), (2, .int x1), (3, .int x2), (4, .int x3), (5, .int x4), (6, .ref (ad 154))]) hx hb dL_sign_19 hl (by decide) rfl (fun ls hl => ?_)
      refine lv_iconst (v := nI 1) hx hb dL_sign_21 (by decide) ?_
      refine vx_ret ?_
      exact W.iret (v := nI 1) hx hb hr (fun t2 ht2 hW => ⟨⟨nI 1, u, rfl, Or.inr (⟨rfl, hxe⟩), (by show va_P D vwCl _ t2.heap; rw [ht2, ← ht]; exact hPB)⟩, hS.F ht2⟩) hS.2.2 dL_sign_22
  · refine lv_i2l hx hb dL_sign_14 rfl ?_
    refine wr_last (x := w) hx hb hE.1 (by rw [← ht]; exact hB_3) hD hS (by omega) dL_sign_15 (fun H2 locs2 hP2 hS => ?_)
    refine lv_goto (tgt := 23) hx hb dL_sign_16 (by decide) ?_
    refine lv_iconst (v := nI 0) hx hb dL_sign_23 (by decide) ?_
    refine vx_ret ?_
    exact W.iret (v := nI 0) hx hb hr (fun t2 ht2 hW => ⟨⟨nI 0, st u 154 0 w, rfl, Or.inl ⟨rfl, w, u, hr_3, rfl⟩, (by show va_P D vwCl _ t2.heap; rw [ht2]; exact hP2)⟩, hS.F ht2⟩) hS.2.2 dL_sign_24

set_option maxHeartbeats 1000000 in
set_option maxRecDepth 100000 in
theorem kL_draft (l : Launch) {D : va_G} {cy ad : Nat → Nat} {n : Nat} {M : Mm} {A : Nat → Prop} (hD : ∀ M, va_D A (wd cy ad n M ++ [])) (hn : 155 ≤ n) {x0 : Int32} {P : Int32 → Mm → Prop} {X : String → Mm → Prop} (hXE : ∀ E u, X E u → E = "java/lang/IndexOutOfBoundsException") (hM : vx_Met l yX5_draft wsX5_draft ({ frames := 6, cells := 1, slots := 6, locals := 86 }) (va_Pc [.ref (ad 0), .int x0] (TW D cy (wd cy ad n M ++ []) A)) (va_Qi (S := Mm) (fun r u => P r u) (fun u t => va_P D vwCl (wd cy ad n u ++ []) t.heap) A) (vx_X (S := Mm) (fun _ => True) (fun E u t => X E u ∧ va_P D vwCl (wd cy ad n u ++ []) t.heap) A) 1 6 A) : vx_Met l yL_draft wsL_draft ({ frames := 7, cells := 1, slots := 6, locals := 111 }) (va_Pc [.ref (ad 0), .int x0, .ref (ad 154)] (LW D cy (wd cy ad n M ++ []) A)) (va_Qi (S := Mm) (fun r u => (r = nI 0 ∧ ∃ w u0, P w u0 ∧ u = st u0 154 0 w) ∨ (r = nI 1 ∧ X "java/lang/IndexOutOfBoundsException" u)) (fun u t => va_P D vwCl (wd cy ad n u ++ []) t.heap) A) (vx_X (S := Mm) (fun _ => False) (fun _ _ _ => False) A) 1 6 A := by
  refine vx_ofWH (cc := cL_draft) (maxL := 4) (ret := some .int) (hh := [(0, 9, 12, 36)]) (by decide) rfl ?_
  intro p e s m args below meth c s₁ B hml hv
  obtain ⟨rfl, ⟨hP, hE, hA, hX⟩, hN1, hN2, hN3, hN4⟩ := hv
  have hx := B.exec
  have hb := B.bytes
  have hr := B.returns
  have hts := atoms_spec (ws := wsL_draft) B.pre
  have hown : s.vm.findClass RL = some m.cls := findClass_of_methodNamed B.named
  have htab := vx_table (x := yL_draft) B (hts _ List.mem_cons_self)
  have hS : va_S A s.heap s.heap [] := va_S.rf
  have hl := lv_entry ([.ref (ad 0), .int x0, .ref (ad 154)]) (n := 4) (Nat.le_of_ble_eq_true rfl)
  rw [lg_entry_eq]
  generalize (lg_sl ([.ref (ad 0), .int x0, .ref (ad 154)]) ++ List.replicate (4 - (lg_sl ([.ref (ad 0), .int x0, .ref (ad 154)])).length) Slot.unset).toArray = ls at hl ⊢
  have hl : lv_has ls 4 [(0, .ref (ad 0)), (1, .int x0), (2, .ref (ad 154))] := hl
  refine lv_aload_n hx hb dL_draft_0 rfl (lv_at hl 2 rfl) ?_
  refine lv_iconst (v := nI 0) hx hb dL_draft_1 (by decide) ?_
  refine lv_aload_n hx hb dL_draft_2 rfl (lv_at hl 0 rfl) ?_
  refine lv_iload_n hx hb dL_draft_3 rfl (lv_at hl 1 rfl) ?_
  refine vx_calli (vx_runV (As := [.int x0]) (rest := [.int (nI 0), .ref (ad 154)]) ⟨hx, hb, hml, hown, hts⟩ hM (cwV 1 hts gL_draft_X5_draft rfl rfl rfl (by decide +kernel) ⟨Nat.le_of_ble_eq_true rfl, Nat.le_of_ble_eq_true rfl⟩) (tw_pv (ci := 4) (q := (RX5, TX5, 11)) hE hP hS hA hX rfl (wd_at (M := M) (show 0 < n by omega) (g_0 cy ad _))) rfl rfl hl.1 rfl (lv_room (Nat.le_of_ble_eq_true rfl)) dL_draft_4 ⟨Nat.le_of_ble_eq_true rfl, Nat.le_of_ble_eq_true rfl⟩) hS (fun q _ h => h) (fun q h => h) (fun q _ h => h) (fun E9 ce q9 u t H1 locs1 ht hvm hpx hBX hz1 hk1 hS hce hcv hcl => ?_) (fun w u t H1 locs ht hvm hr_3 hB_3 hz1 hk1 hS => ?_)
  · obtain ⟨hxe, hPB⟩ := hBX
    rcases hXE _ _ hxe with rfl
    · refine vx_catch hown [] { startPc := 0, endPc := 9, handlerPc := 12, catchType := 36 } [] (by rw [htab]; rfl) (fun z hz => nomatch hz) rfl (by decide) (hts (.classLink RL 36 "java/lang/IndexOutOfBoundsException") (by decide +kernel)) (ex_u hX (List.mem_of_getElem? (i := 2) rfl) _ (List.mem_of_getElem? (i := 3) rfl)) hce hcv hcl ?_
      refine lv_astore_n (lv' := [(3, .ref q9), (0, .ref (ad 0)), (1, .int x0), (2, .ref (ad 154))]) hx hb dL_draft_12 rfl hl (by decide) rfl (fun ls hl => ?_)
      refine lv_iconst (v := nI 1) hx hb dL_draft_13 (by decide) ?_
      refine vx_ret ?_
      exact W.iret (v := nI 1) hx hb hr (fun t2 ht2 hW => ⟨⟨nI 1, u, rfl, Or.inr (⟨rfl, hxe⟩), (by show va_P D vwCl _ t2.heap; rw [ht2, ← ht]; exact hPB)⟩, hS.F ht2⟩) hS.2.2 dL_draft_14
  · refine lv_i2l hx hb dL_draft_7 rfl ?_
    refine wr_last (x := w) hx hb hE.1 (by rw [← ht]; exact hB_3) hD hS (by omega) dL_draft_8 (fun H2 locs2 hP2 hS => ?_)
    refine lv_goto (tgt := 15) hx hb dL_draft_9 (by decide) ?_
    refine lv_iconst (v := nI 0) hx hb dL_draft_15 (by decide) ?_
    refine vx_ret ?_
    exact W.iret (v := nI 0) hx hb hr (fun t2 ht2 hW => ⟨⟨nI 0, st u 154 0 w, rfl, Or.inl ⟨rfl, w, u, hr_3, rfl⟩, (by show va_P D vwCl _ t2.heap; rw [ht2]; exact hP2)⟩, hS.F ht2⟩) hS.2.2 dL_draft_16

set_option maxHeartbeats 1000000 in
set_option maxRecDepth 100000 in
theorem kL_edit (l : Launch) {D : va_G} {cy ad : Nat → Nat} {n : Nat} {M : Mm} {A : Nat → Prop} (hD : ∀ M, va_D A (wd cy ad n M ++ [])) (hn : 155 ≤ n) {x0 x1 : Int32} {P : Mm → Prop} {X : String → Mm → Prop} (hXE : ∀ E u, X E u → E = "java/lang/IndexOutOfBoundsException") (hM : vx_Met l yX5_edit wsX5_edit ({ frames := 6, cells := 1, slots := 6, locals := 86 }) (va_Pc [.ref (ad 0), .int x0, .int x1] (TW D cy (wd cy ad n M ++ []) A)) (va_Qv (S := Mm) (fun u => P u) (fun u t => va_P D vwCl (wd cy ad n u ++ []) t.heap) A) (vx_X (S := Mm) (fun _ => True) (fun E u t => X E u ∧ va_P D vwCl (wd cy ad n u ++ []) t.heap) A) 1 6 A) : vx_Met l yL_edit wsL_edit ({ frames := 7, cells := 1, slots := 6, locals := 112 }) (va_Pc [.ref (ad 0), .int x0, .int x1] (LW D cy (wd cy ad n M ++ []) A)) (va_Qi (S := Mm) (fun r u => (r = nI 0 ∧ P u) ∨ (r = nI 1 ∧ X "java/lang/IndexOutOfBoundsException" u)) (fun u t => va_P D vwCl (wd cy ad n u ++ []) t.heap) A) (vx_X (S := Mm) (fun _ => False) (fun _ _ _ => False) A) 1 6 A := by
  refine vx_ofWH (cc := cL_edit) (maxL := 4) (ret := some .int) (hh := [(0, 6, 9, 36)]) (by decide) rfl ?_
  intro p e s m args below meth c s₁ B hml hv
  obtain ⟨rfl, ⟨hP, hE, hA, hX⟩, hN1, hN2, hN3, hN4⟩ := hv
  have hx := B.exec
  have hb := B.bytes
  have hr := B.returns
  have hts := atoms_spec (ws := wsL_edit) B.pre
  have hown : s.vm.findClass RL = some m.cls := findClass_of_methodNamed B.named
  have htab := vx_table (x := yL_edit) B (hts _ List.mem_cons_self)
  have hS : va_S A s.heap s.heap [] := va_S.rf
  have hl := lv_entry ([.ref (ad 0), .int x0, .int x1]) (n := 4) (Nat.le_of_ble_eq_true rfl)
  rw [lg_entry_eq]
  generalize (lg_sl ([.ref (ad 0), .int x0, .int x1]) ++ List.replicate (4 - (lg_sl ([.ref (ad 0), .int x0, .int x1])).length) Slot.unset).toArray = ls at hl ⊢
  have hl : lv_has ls 4 [(0, .ref (ad 0)), (1, .int x0), (2, .int x1)] := hl
  refine lv_aload_n hx hb dL_edit_0 rfl (lv_at hl 0 rfl) ?_
  refine lv_iload_n hx hb dL_edit_1 rfl (lv_at hl 1 rfl) ?_
  refine lv_iload_n hx hb dL_edit_2 rfl (lv_at hl 2 rfl) ?_
  refine vx_callv (vx_runV (As := [.int x0, .int x1]) (rest := []) ⟨hx, hb, hml, hown, hts⟩ hM (cwV 2 hts gL_edit_X5_edit rfl rfl rfl (by decide +kernel) ⟨Nat.le_of_ble_eq_true rfl, Nat.le_of_ble_eq_true rfl⟩) (tw_pv (ci := 4) (q := (RX5, TX5, 11)) hE hP hS hA hX rfl (wd_at (M := M) (show 0 < n by omega) (g_0 cy ad _))) rfl rfl hl.1 rfl (lv_room (Nat.le_of_ble_eq_true rfl)) dL_edit_3 ⟨Nat.le_of_ble_eq_true rfl, Nat.le_of_ble_eq_true rfl⟩) hS (fun q _ h => h) (fun q h => h) (fun q _ h => h) (fun E9 ce q9 u t H1 locs1 ht hvm hpx hBX hz1 hk1 hS hce hcv hcl => ?_) (fun u t H1 locs ht hvm hr_3 hB_3 hz1 hk1 hS => ?_)
  · obtain ⟨hxe, hPB⟩ := hBX
    rcases hXE _ _ hxe with rfl
    · refine vx_catch hown [] { startPc := 0, endPc := 6, handlerPc := 9, catchType := 36 } [] (by rw [htab]; rfl) (fun z hz => nomatch hz) rfl (by decide) (hts (.classLink RL 36 "java/lang/IndexOutOfBoundsException") (by decide +kernel)) (ex_u hX (List.mem_of_getElem? (i := 2) rfl) _ (List.mem_of_getElem? (i := 3) rfl)) hce hcv hcl ?_
      refine lv_astore_n (lv' := [(3, .ref q9), (0, .ref (ad 0)), (1, .int x0), (2, .int x1)]) hx hb dL_edit_9 rfl hl (by decide) rfl (fun ls hl => ?_)
      refine lv_iconst (v := nI 1) hx hb dL_edit_10 (by decide) ?_
      refine vx_ret ?_
      exact W.iret (v := nI 1) hx hb hr (fun t2 ht2 hW => ⟨⟨nI 1, u, rfl, Or.inr (⟨rfl, hxe⟩), (by show va_P D vwCl _ t2.heap; rw [ht2, ← ht]; exact hPB)⟩, hS.F ht2⟩) hS.2.2 dL_edit_11
  · refine lv_goto (tgt := 12) hx hb dL_edit_6 (by decide) ?_
    refine lv_iconst (v := nI 0) hx hb dL_edit_12 (by decide) ?_
    refine vx_ret ?_
    exact W.iret (v := nI 0) hx hb hr (fun t2 ht2 hW => ⟨⟨nI 0, u, rfl, Or.inl ⟨rfl, hr_3⟩, (by show va_P D vwCl _ t2.heap; rw [ht2, ← ht]; exact hB_3)⟩, hS.F ht2⟩) hS.2.2 dL_edit_13

set_option maxHeartbeats 1000000 in
set_option maxRecDepth 100000 in
theorem kL_submit (l : Launch) {D : va_G} {cy ad : Nat → Nat} {n : Nat} {M : Mm} {A : Nat → Prop} (hD : ∀ M, va_D A (wd cy ad n M ++ [])) (hn : 155 ≤ n) {x0 x1 x2 : Int32} {P : Int32 → Mm → Prop} {X : String → Mm → Prop} (hXE : ∀ E u, X E u → E = "java/lang/IllegalArgumentException" ∨ E = "java/lang/IllegalStateException" ∨ E = "java/lang/UnsupportedOperationException") (hM : vx_Met l yX5_submit wsX5_submit ({ frames := 7, cells := 4, slots := 22, locals := 107 }) (va_Pc [.ref (ad 0), .int x0, .int x1, .int x2] (TW D cy (wd cy ad n M ++ []) A)) (va_Qi (S := Mm) (fun r u => P r u) (fun u t => va_P D vwCl (wd cy ad n u ++ []) t.heap) A) (vx_X (S := Mm) (fun _ => True) (fun E u t => X E u ∧ va_P D vwCl (wd cy ad n u ++ []) t.heap) A) 4 22 A) : vx_Met l yL_submit wsL_submit ({ frames := 8, cells := 4, slots := 22, locals := 138 }) (va_Pc [.ref (ad 0), .int x0, .int x1, .int x2, .ref (ad 154)] (LW D cy (wd cy ad n M ++ []) A)) (va_Qi (S := Mm) (fun r u => (r = nI 0 ∧ ∃ w u0, P w u0 ∧ u = st u0 154 0 w) ∨ (r = nI 1 ∧ X "java/lang/IllegalArgumentException" u) ∨ (r = nI 2 ∧ X "java/lang/IllegalStateException" u) ∨ (r = nI 3 ∧ X "java/lang/UnsupportedOperationException" u)) (fun u t => va_P D vwCl (wd cy ad n u ++ []) t.heap) A) (vx_X (S := Mm) (fun _ => False) (fun _ _ _ => False) A) 4 22 A := by
  refine vx_ofWH (cc := cL_submit) (maxL := 6) (ret := some .int) (hh := [(0, 12, 15, 13), (0, 12, 19, 15), (0, 12, 23, 46)]) (by decide) rfl ?_
  intro p e s m args below meth c s₁ B hml hv
  obtain ⟨rfl, ⟨hP, hE, hA, hX⟩, hN1, hN2, hN3, hN4⟩ := hv
  have hx := B.exec
  have hb := B.bytes
  have hr := B.returns
  have hts := atoms_spec (ws := wsL_submit) B.pre
  have hown : s.vm.findClass RL = some m.cls := findClass_of_methodNamed B.named
  have htab := vx_table (x := yL_submit) B (hts _ List.mem_cons_self)
  have hS : va_S A s.heap s.heap [] := va_S.rf
  have hl := lv_entry ([.ref (ad 0), .int x0, .int x1, .int x2, .ref (ad 154)]) (n := 6) (Nat.le_of_ble_eq_true rfl)
  rw [lg_entry_eq]
  generalize (lg_sl ([.ref (ad 0), .int x0, .int x1, .int x2, .ref (ad 154)]) ++ List.replicate (6 - (lg_sl ([.ref (ad 0), .int x0, .int x1, .int x2, .ref (ad 154)])).length) Slot.unset).toArray = ls at hl ⊢
  have hl : lv_has ls 6 [(0, .ref (ad 0)), (1, .int x0), (2, .int x1), (3, .int x2), (4, .ref (ad 154))] := hl
  refine lv_aload hx hb dL_submit_0 (lv_at hl 4 rfl) ?_
  refine lv_iconst (v := nI 0) hx hb dL_submit_2 (by decide) ?_
  refine lv_aload_n hx hb dL_submit_3 rfl (lv_at hl 0 rfl) ?_
  refine lv_iload_n hx hb dL_submit_4 rfl (lv_at hl 1 rfl) ?_
  refine lv_iload_n hx hb dL_submit_5 rfl (lv_at hl 2 rfl) ?_
  refine lv_iload_n hx hb dL_submit_6 rfl (lv_at hl 3 rfl) ?_
  refine vx_calli (vx_runV (As := [.int x0, .int x1, .int x2]) (rest := [.int (nI 0), .ref (ad 154)]) ⟨hx, hb, hml, hown, hts⟩ hM (cwV 3 hts gL_submit_X5_submit rfl rfl rfl (by decide +kernel) ⟨Nat.le_of_ble_eq_true rfl, Nat.le_of_ble_eq_true rfl⟩) (tw_pv (ci := 4) (q := (RX5, TX5, 11)) hE hP hS hA hX rfl (wd_at (M := M) (show 0 < n by omega) (g_0 cy ad _))) rfl rfl hl.1 rfl (lv_room (Nat.le_of_ble_eq_true rfl)) dL_submit_7 ⟨Nat.le_of_ble_eq_true rfl, Nat.le_of_ble_eq_true rfl⟩) hS (fun q _ h => h) (fun q h => h) (fun q _ h => h) (fun E9 ce q9 u t H1 locs1 ht hvm hpx hBX hz1 hk1 hS hce hcv hcl => ?_) (fun w u t H1 locs ht hvm hr_3 hB_3 hz1 hk1 hS => ?_)
  · obtain ⟨hxe, hPB⟩ := hBX
    rcases hXE _ _ hxe with rfl | rfl | rfl
    · refine vx_catch hown [] { startPc := 0, endPc := 12, handlerPc := 15, catchType := 13 } [{ startPc := 0, endPc := 12, handlerPc := 19, catchType := 15 }, { startPc := 0, endPc := 12, handlerPc := 23, catchType := 46 }] (by rw [htab]; rfl) (fun z hz => nomatch hz) rfl (by decide) (hts (.classLink RL 13 "java/lang/IllegalArgumentException") (by decide +kernel)) (ex_u hX (List.mem_of_getElem? (i := 0) rfl) _ (List.mem_of_getElem? (i := 3) rfl)) hce hcv hcl ?_
      refine lv_astore (lv' := [(5, .ref q9), (0, .ref (ad 0)), (1, .int x0), (2, .int x1), (3, .int x2), (4, .ref (ad 154))]) hx hb dL_submit_15 hl (by decide) rfl (fun ls hl => ?_)
      refine lv_iconst (v := nI 1) hx hb dL_submit_17 (by decide) ?_
      refine vx_ret ?_
      exact W.iret (v := nI 1) hx hb hr (fun t2 ht2 hW => ⟨⟨nI 1, u, rfl, Or.inr (Or.inl ⟨rfl, hxe⟩), (by show va_P D vwCl _ t2.heap; rw [ht2, ← ht]; exact hPB)⟩, hS.F ht2⟩) hS.2.2 dL_submit_18
    · refine vx_catch hown [{ startPc := 0, endPc := 12, handlerPc := 15, catchType := 13 }] { startPc := 0, endPc := 12, handlerPc := 19, catchType := 15 } [{ startPc := 0, endPc := 12, handlerPc := 23, catchType := 46 }] (by rw [htab]; rfl) (fun z hz => (fun hz => (List.mem_cons.mp hz).elim (fun e9 => by subst e9; exact Or.inr ⟨by decide, _, hts (.classLink RL 13 "java/lang/IllegalArgumentException") (by decide +kernel), hN1⟩) (fun hz => nomatch hz)) hz) rfl (by decide) (hts (.classLink RL 15 "java/lang/IllegalStateException") (by decide +kernel)) (ex_u hX (List.mem_of_getElem? (i := 1) rfl) _ (List.mem_of_getElem? (i := 3) rfl)) hce hcv hcl ?_
      refine lv_astore (lv' := [(5, .ref q9), (0, .ref (ad 0)), (1, .int x0), (2, .int x1), (3, .int x2), (4, .ref (ad 154))]) hx hb dL_submit_19 hl (by decide) rfl (fun ls hl => ?_)
      refine lv_iconst (v := nI 2) hx hb dL_submit_21 (by decide) ?_
      refine vx_ret ?_
      exact W.iret (v := nI 2) hx hb hr (fun t2 ht2 hW => ⟨⟨nI 2, u, rfl, Or.inr (Or.inr (Or.inl ⟨rfl, hxe⟩)), (by show va_P D vwCl _ t2.heap; rw [ht2, ← ht]; exact hPB)⟩, hS.F ht2⟩) hS.2.2 dL_submit_22
    · refine vx_catch hown [{ startPc := 0, endPc := 12, handlerPc := 15, catchType := 13 }, { startPc := 0, endPc := 12, handlerPc := 19, catchType := 15 }] { startPc := 0, endPc := 12, handlerPc := 23, catchType := 46 } [] (by rw [htab]; rfl) (fun z hz => (fun hz => (List.mem_cons.mp hz).elim (fun e9 => by subst e9; exact Or.inr ⟨by decide, _, hts (.classLink RL 13 "java/lang/IllegalArgumentException") (by decide +kernel), hN2⟩) (fun hz => (List.mem_cons.mp hz).elim (fun e9 => by subst e9; exact Or.inr ⟨by decide, _, hts (.classLink RL 15 "java/lang/IllegalStateException") (by decide +kernel), hN3⟩) (fun hz => nomatch hz))) hz) rfl (by decide) (hts (.classLink RL 46 "java/lang/UnsupportedOperationException") (by decide +kernel)) (ex_u hX (List.mem_of_getElem? (i := 3) rfl) _ (List.mem_of_getElem? (i := 3) rfl)) hce hcv hcl ?_
      refine lv_astore (lv' := [(5, .ref q9), (0, .ref (ad 0)), (1, .int x0), (2, .int x1), (3, .int x2), (4, .ref (ad 154))]) hx hb dL_submit_23 hl (by decide) rfl (fun ls hl => ?_)
      refine lv_iconst (v := nI 3) hx hb dL_submit_25 (by decide) ?_
      refine vx_ret ?_
      exact W.iret (v := nI 3) hx hb hr (fun t2 ht2 hW => ⟨⟨nI 3, u, rfl, Or.inr (Or.inr (Or.inr (⟨rfl, hxe⟩))), (by show va_P D vwCl _ t2.heap; rw [ht2, ← ht]; exact hPB)⟩, hS.F ht2⟩) hS.2.2 dL_submit_26
  · refine lv_i2l hx hb dL_submit_10 rfl ?_
    refine wr_last (x := w) hx hb hE.1 (by rw [← ht]; exact hB_3) hD hS (by omega) dL_submit_11 (fun H2 locs2 hP2 hS => ?_)
    refine lv_goto (tgt := 27) hx hb dL_submit_12 (by decide) ?_
    refine lv_iconst (v := nI 0) hx hb dL_submit_27 (by decide) ?_
    refine vx_ret ?_
    exact W.iret (v := nI 0) hx hb hr (fun t2 ht2 hW => ⟨⟨nI 0, st u 154 0 w, rfl, Or.inl ⟨rfl, w, u, hr_3, rfl⟩, (by show va_P D vwCl _ t2.heap; rw [ht2]; exact hP2)⟩, hS.F ht2⟩) hS.2.2 dL_submit_28

set_option maxHeartbeats 1000000 in
set_option maxRecDepth 100000 in
theorem kL_count (l : Launch) {D : va_G} {cy ad : Nat → Nat} {n : Nat} {M : Mm} {A : Nat → Prop} (hD : ∀ M, va_D A (wd cy ad n M ++ [])) (hn : 155 ≤ n) {x0 : Int32} {P : Int32 → Mm → Prop} {X : String → Mm → Prop} (hXE : ∀ E u, X E u → E = "java/lang/IllegalArgumentException") (hM : vx_Met l yX5_count wsX5_count ({ frames := 7, cells := 1, slots := 6, locals := 107 }) (va_Pc [.ref (ad 0), .int x0] (TW D cy (wd cy ad n M ++ []) A)) (va_Qi (S := Mm) (fun r u => P r u) (fun u t => va_P D vwCl (wd cy ad n u ++ []) t.heap) A) (vx_X (S := Mm) (fun _ => True) (fun E u t => X E u ∧ va_P D vwCl (wd cy ad n u ++ []) t.heap) A) 1 6 A) : vx_Met l yL_count wsL_count ({ frames := 8, cells := 1, slots := 6, locals := 132 }) (va_Pc [.ref (ad 0), .int x0, .ref (ad 154)] (LW D cy (wd cy ad n M ++ []) A)) (va_Qi (S := Mm) (fun r u => (r = nI 0 ∧ ∃ w u0, P w u0 ∧ u = st u0 154 0 w) ∨ (r = nI 1 ∧ X "java/lang/IllegalArgumentException" u)) (fun u t => va_P D vwCl (wd cy ad n u ++ []) t.heap) A) (vx_X (S := Mm) (fun _ => False) (fun _ _ _ => False) A) 1 6 A := by
  refine vx_ofWH (cc := cL_count) (maxL := 4) (ret := some .int) (hh := [(0, 9, 12, 13)]) (by decide) rfl ?_
  intro p e s m args below meth c s₁ B hml hv
  obtain ⟨rfl, ⟨hP, hE, hA, hX⟩, hN1, hN2, hN3, hN4⟩ := hv
  have hx := B.exec
  have hb := B.bytes
  have hr := B.returns
  have hts := atoms_spec (ws := wsL_count) B.pre
  have hown : s.vm.findClass RL = some m.cls := findClass_of_methodNamed B.named
  have htab := vx_table (x := yL_count) B (hts _ List.mem_cons_self)
  have hS : va_S A s.heap s.heap [] := va_S.rf
  have hl := lv_entry ([.ref (ad 0), .int x0, .ref (ad 154)]) (n := 4) (Nat.le_of_ble_eq_true rfl)
  rw [lg_entry_eq]
  generalize (lg_sl ([.ref (ad 0), .int x0, .ref (ad 154)]) ++ List.replicate (4 - (lg_sl ([.ref (ad 0), .int x0, .ref (ad 154)])).length) Slot.unset).toArray = ls at hl ⊢
  have hl : lv_has ls 4 [(0, .ref (ad 0)), (1, .int x0), (2, .ref (ad 154))] := hl
  refine lv_aload_n hx hb dL_count_0 rfl (lv_at hl 2 rfl) ?_
  refine lv_iconst (v := nI 0) hx hb dL_count_1 (by decide) ?_
  refine lv_aload_n hx hb dL_count_2 rfl (lv_at hl 0 rfl) ?_
  refine lv_iload_n hx hb dL_count_3 rfl (lv_at hl 1 rfl) ?_
  refine vx_calli (vx_runV (As := [.int x0]) (rest := [.int (nI 0), .ref (ad 154)]) ⟨hx, hb, hml, hown, hts⟩ hM (cwV 1 hts gL_count_X5_count rfl rfl rfl (by decide +kernel) ⟨Nat.le_of_ble_eq_true rfl, Nat.le_of_ble_eq_true rfl⟩) (tw_pv (ci := 4) (q := (RX5, TX5, 11)) hE hP hS hA hX rfl (wd_at (M := M) (show 0 < n by omega) (g_0 cy ad _))) rfl rfl hl.1 rfl (lv_room (Nat.le_of_ble_eq_true rfl)) dL_count_4 ⟨Nat.le_of_ble_eq_true rfl, Nat.le_of_ble_eq_true rfl⟩) hS (fun q _ h => h) (fun q h => h) (fun q _ h => h) (fun E9 ce q9 u t H1 locs1 ht hvm hpx hBX hz1 hk1 hS hce hcv hcl => ?_) (fun w u t H1 locs ht hvm hr_3 hB_3 hz1 hk1 hS => ?_)
  · obtain ⟨hxe, hPB⟩ := hBX
    rcases hXE _ _ hxe with rfl
    · refine vx_catch hown [] { startPc := 0, endPc := 9, handlerPc := 12, catchType := 13 } [] (by rw [htab]; rfl) (fun z hz => nomatch hz) rfl (by decide) (hts (.classLink RL 13 "java/lang/IllegalArgumentException") (by decide +kernel)) (ex_u hX (List.mem_of_getElem? (i := 0) rfl) _ (List.mem_of_getElem? (i := 3) rfl)) hce hcv hcl ?_
      refine lv_astore_n (lv' := [(3, .ref q9), (0, .ref (ad 0)), (1, .int x0), (2, .ref (ad 154))]) hx hb dL_count_12 rfl hl (by decide) rfl (fun ls hl => ?_)
      refine lv_iconst (v := nI 1) hx hb dL_count_13 (by decide) ?_
      refine vx_ret ?_
      exact W.iret (v := nI 1) hx hb hr (fun t2 ht2 hW => ⟨⟨nI 1, u, rfl, Or.inr (⟨rfl, hxe⟩), (by show va_P D vwCl _ t2.heap; rw [ht2, ← ht]; exact hPB)⟩, hS.F ht2⟩) hS.2.2 dL_count_14
  · refine lv_i2l hx hb dL_count_7 rfl ?_
    refine wr_last (x := w) hx hb hE.1 (by rw [← ht]; exact hB_3) hD hS (by omega) dL_count_8 (fun H2 locs2 hP2 hS => ?_)
    refine lv_goto (tgt := 15) hx hb dL_count_9 (by decide) ?_
    refine lv_iconst (v := nI 0) hx hb dL_count_15 (by decide) ?_
    refine vx_ret ?_
    exact W.iret (v := nI 0) hx hb hr (fun t2 ht2 hW => ⟨⟨nI 0, st u 154 0 w, rfl, Or.inl ⟨rfl, w, u, hr_3, rfl⟩, (by show va_P D vwCl _ t2.heap; rw [ht2]; exact hP2)⟩, hS.F ht2⟩) hS.2.2 dL_count_16

set_option maxHeartbeats 1000000 in
set_option maxRecDepth 100000 in
theorem kL_seen (l : Launch) {D : va_G} {cy ad : Nat → Nat} {n : Nat} {M : Mm} {A : Nat → Prop} (hD : ∀ M, va_D A (wd cy ad n M ++ [])) (hn : 155 ≤ n) {x0 : Int32} {P : Int32 → Mm → Prop} {X : String → Mm → Prop} (hXE : ∀ E u, X E u → E = "java/lang/IllegalArgumentException") (hz : ∀ w u, P w u → w = 1 ∨ w = 0) (hM : vx_Met l yX5_seen wsX5_seen ({ frames := 7, cells := 1, slots := 6, locals := 107 }) (va_Pc [.ref (ad 0), .int x0] (TW D cy (wd cy ad n M ++ []) A)) (va_Qi (S := Mm) (fun r u => P r u) (fun u t => va_P D vwCl (wd cy ad n u ++ []) t.heap) A) (vx_X (S := Mm) (fun _ => True) (fun E u t => X E u ∧ va_P D vwCl (wd cy ad n u ++ []) t.heap) A) 1 6 A) : vx_Met l yL_seen wsL_seen ({ frames := 8, cells := 1, slots := 6, locals := 133 }) (va_Pc [.ref (ad 0), .int x0, .ref (ad 154)] (LW D cy (wd cy ad n M ++ []) A)) (va_Qi (S := Mm) (fun r u => (r = nI 0 ∧ ∃ w u0, P w u0 ∧ u = st u0 154 0 w) ∨ (r = nI 1 ∧ X "java/lang/IllegalArgumentException" u)) (fun u t => va_P D vwCl (wd cy ad n u ++ []) t.heap) A) (vx_X (S := Mm) (fun _ => False) (fun _ _ _ => False) A) 1 6 A := by
  refine vx_ofWH (cc := cL_seen) (maxL := 4) (ret := some .int) (hh := [(0, 16, 19, 13)]) (by decide) rfl ?_
  intro p e s m args below meth c s₁ B hml hv
  obtain ⟨rfl, ⟨hP, hE, hA, hX⟩, hN1, hN2, hN3, hN4⟩ := hv
  have hx := B.exec
  have hb := B.bytes
  have hr := B.returns
  have hts := atoms_spec (ws := wsL_seen) B.pre
  have hown : s.vm.findClass RL = some m.cls := findClass_of_methodNamed B.named
  have htab := vx_table (x := yL_seen) B (hts _ List.mem_cons_self)
  have hS : va_S A s.heap s.heap [] := va_S.rf
  have hl := lv_entry ([.ref (ad 0), .int x0, .ref (ad 154)]) (n := 4) (Nat.le_of_ble_eq_true rfl)
  rw [lg_entry_eq]
  generalize (lg_sl ([.ref (ad 0), .int x0, .ref (ad 154)]) ++ List.replicate (4 - (lg_sl ([.ref (ad 0), .int x0, .ref (ad 154)])).length) Slot.unset).toArray = ls at hl ⊢
  have hl : lv_has ls 4 [(0, .ref (ad 0)), (1, .int x0), (2, .ref (ad 154))] := hl
  refine lv_aload_n hx hb dL_seen_0 rfl (lv_at hl 2 rfl) ?_
  refine lv_iconst (v := nI 0) hx hb dL_seen_1 (by decide) ?_
  refine lv_aload_n hx hb dL_seen_2 rfl (lv_at hl 0 rfl) ?_
  refine lv_iload_n hx hb dL_seen_3 rfl (lv_at hl 1 rfl) ?_
  refine vx_calli (vx_runV (As := [.int x0]) (rest := [.int (nI 0), .ref (ad 154)]) ⟨hx, hb, hml, hown, hts⟩ hM (cwV 1 hts gL_seen_X5_seen rfl rfl rfl (by decide +kernel) ⟨Nat.le_of_ble_eq_true rfl, Nat.le_of_ble_eq_true rfl⟩) (tw_pv (ci := 4) (q := (RX5, TX5, 11)) hE hP hS hA hX rfl (wd_at (M := M) (show 0 < n by omega) (g_0 cy ad _))) rfl rfl hl.1 rfl (lv_room (Nat.le_of_ble_eq_true rfl)) dL_seen_4 ⟨Nat.le_of_ble_eq_true rfl, Nat.le_of_ble_eq_true rfl⟩) hS (fun q _ h => h) (fun q h => h) (fun q _ h => h) (fun E9 ce q9 u t H1 locs1 ht hvm hpx hBX hz1 hk1 hS hce hcv hcl => ?_) (fun w u t H1 locs ht hvm hr_3 hB_3 hz1 hk1 hS => ?_)
  · obtain ⟨hxe, hPB⟩ := hBX
    rcases hXE _ _ hxe with rfl
    · refine vx_catch hown [] { startPc := 0, endPc := 16, handlerPc := 19, catchType := 13 } [] (by rw [htab]; rfl) (fun z hz => nomatch hz) rfl (by decide) (hts (.classLink RL 13 "java/lang/IllegalArgumentException") (by decide +kernel)) (ex_u hX (List.mem_of_getElem? (i := 0) rfl) _ (List.mem_of_getElem? (i := 3) rfl)) hce hcv hcl ?_
      refine lv_astore_n (lv' := [(3, .ref q9), (0, .ref (ad 0)), (1, .int x0), (2, .ref (ad 154))]) hx hb dL_seen_19 rfl hl (by decide) rfl (fun ls hl => ?_)
      refine lv_iconst (v := nI 1) hx hb dL_seen_20 (by decide) ?_
      refine vx_ret ?_
      exact W.iret (v := nI 1) hx hb hr (fun t2 ht2 hW => ⟨⟨nI 1, u, rfl, Or.inr (⟨rfl, hxe⟩), (by show va_P D vwCl _ t2.heap; rw [ht2, ← ht]; exact hPB)⟩, hS.F ht2⟩) hS.2.2 dL_seen_21
  · rcases hz w u hr_3 with rfl | rfl
    · refine lv_if_eq (tgt := 14) hx hb dL_seen_7 (by decide) (fun c9 => absurd c9 (by decide)) (fun c9 => ?_)
      refine lv_lconst (v := (1 : Int32).toInt64) hx hb dL_seen_10 (by decide) ?_
      refine lv_goto (tgt := 15) hx hb dL_seen_11 (by decide) ?_
      refine wr_last (x := 1) hx hb hE.1 (by rw [← ht]; exact hB_3) hD hS (by omega) dL_seen_15 (fun H2 locs2 hP2 hS => ?_)
      refine lv_goto (tgt := 22) hx hb dL_seen_16 (by decide) ?_
      refine lv_iconst (v := nI 0) hx hb dL_seen_22 (by decide) ?_
      refine vx_ret ?_
      exact W.iret (v := nI 0) hx hb hr (fun t2 ht2 hW => ⟨⟨nI 0, st u 154 0 1, rfl, Or.inl ⟨rfl, 1, u, hr_3, rfl⟩, (by show va_P D vwCl _ t2.heap; rw [ht2]; exact hP2)⟩, hS.F ht2⟩) hS.2.2 dL_seen_23
    · refine lv_if_eq (tgt := 14) hx hb dL_seen_7 (by decide) (fun c9 => ?_) (fun c9 => absurd rfl c9)
      refine lv_lconst (v := (0 : Int32).toInt64) hx hb dL_seen_14 (by decide) ?_
      refine wr_last (x := 0) hx hb hE.1 (by rw [← ht]; exact hB_3) hD hS (by omega) dL_seen_15 (fun H2 locs2 hP2 hS => ?_)
      refine lv_goto (tgt := 22) hx hb dL_seen_16 (by decide) ?_
      refine lv_iconst (v := nI 0) hx hb dL_seen_22 (by decide) ?_
      refine vx_ret ?_
      exact W.iret (v := nI 0) hx hb hr (fun t2 ht2 hW => ⟨⟨nI 0, st u 154 0 0, rfl, Or.inl ⟨rfl, 0, u, hr_3, rfl⟩, (by show va_P D vwCl _ t2.heap; rw [ht2]; exact hP2)⟩, hS.F ht2⟩) hS.2.2 dL_seen_23

set_option maxHeartbeats 1000000 in
set_option maxRecDepth 100000 in
theorem kL_recount (l : Launch) {D : va_G} {cy ad : Nat → Nat} {n : Nat} {M : Mm} {A : Nat → Prop} (hD : ∀ M, va_D A (wd cy ad n M ++ [])) (hn : 155 ≤ n) {x0 : Int32} {P : Int32 → Mm → Prop} {X : String → Mm → Prop} (hXE : ∀ E u, X E u → E = "java/lang/IllegalArgumentException") (hM : vx_Met l yX5_recount wsX5_recount ({ frames := 7, cells := 9, slots := 38, locals := 121 }) (va_Pc [.ref (ad 0), .int x0] (TW D cy (wd cy ad n M ++ []) A)) (va_Qi (S := Mm) (fun r u => P r u) (fun u t => va_P D vwCl (wd cy ad n u ++ []) t.heap) A) (vx_X (S := Mm) (fun _ => True) (fun E u t => X E u ∧ va_P D vwCl (wd cy ad n u ++ []) t.heap) A) 9 38 A) : vx_Met l yL_recount wsL_recount ({ frames := 8, cells := 9, slots := 38, locals := 148 }) (va_Pc [.ref (ad 0), .int x0, .ref (ad 154)] (LW D cy (wd cy ad n M ++ []) A)) (va_Qi (S := Mm) (fun r u => (r = nI 0 ∧ ∃ w u0, P w u0 ∧ u = st u0 154 0 w) ∨ (r = nI 1 ∧ X "java/lang/IllegalArgumentException" u)) (fun u t => va_P D vwCl (wd cy ad n u ++ []) t.heap) A) (vx_X (S := Mm) (fun _ => False) (fun _ _ _ => False) A) 9 38 A := by
  refine vx_ofWH (cc := cL_recount) (maxL := 4) (ret := some .int) (hh := [(0, 9, 12, 13)]) (by decide) rfl ?_
  intro p e s m args below meth c s₁ B hml hv
  obtain ⟨rfl, ⟨hP, hE, hA, hX⟩, hN1, hN2, hN3, hN4⟩ := hv
  have hx := B.exec
  have hb := B.bytes
  have hr := B.returns
  have hts := atoms_spec (ws := wsL_recount) B.pre
  have hown : s.vm.findClass RL = some m.cls := findClass_of_methodNamed B.named
  have htab := vx_table (x := yL_recount) B (hts _ List.mem_cons_self)
  have hS : va_S A s.heap s.heap [] := va_S.rf
  have hl := lv_entry ([.ref (ad 0), .int x0, .ref (ad 154)]) (n := 4) (Nat.le_of_ble_eq_true rfl)
  rw [lg_entry_eq]
  generalize (lg_sl ([.ref (ad 0), .int x0, .ref (ad 154)]) ++ List.replicate (4 - (lg_sl ([.ref (ad 0), .int x0, .ref (ad 154)])).length) Slot.unset).toArray = ls at hl ⊢
  have hl : lv_has ls 4 [(0, .ref (ad 0)), (1, .int x0), (2, .ref (ad 154))] := hl
  refine lv_aload_n hx hb dL_recount_0 rfl (lv_at hl 2 rfl) ?_
  refine lv_iconst (v := nI 0) hx hb dL_recount_1 (by decide) ?_
  refine lv_aload_n hx hb dL_recount_2 rfl (lv_at hl 0 rfl) ?_
  refine lv_iload_n hx hb dL_recount_3 rfl (lv_at hl 1 rfl) ?_
  refine vx_calli (vx_runV (As := [.int x0]) (rest := [.int (nI 0), .ref (ad 154)]) ⟨hx, hb, hml, hown, hts⟩ hM (cwV 1 hts gL_recount_X5_recount rfl rfl rfl (by decide +kernel) ⟨Nat.le_of_ble_eq_true rfl, Nat.le_of_ble_eq_true rfl⟩) (tw_pv (ci := 4) (q := (RX5, TX5, 11)) hE hP hS hA hX rfl (wd_at (M := M) (show 0 < n by omega) (g_0 cy ad _))) rfl rfl hl.1 rfl (lv_room (Nat.le_of_ble_eq_true rfl)) dL_recount_4 ⟨Nat.le_of_ble_eq_true rfl, Nat.le_of_ble_eq_true rfl⟩) hS (fun q _ h => h) (fun q h => h) (fun q _ h => h) (fun E9 ce q9 u t H1 locs1 ht hvm hpx hBX hz1 hk1 hS hce hcv hcl => ?_) (fun w u t H1 locs ht hvm hr_3 hB_3 hz1 hk1 hS => ?_)
  · obtain ⟨hxe, hPB⟩ := hBX
    rcases hXE _ _ hxe with rfl
    · refine vx_catch hown [] { startPc := 0, endPc := 9, handlerPc := 12, catchType := 13 } [] (by rw [htab]; rfl) (fun z hz => nomatch hz) rfl (by decide) (hts (.classLink RL 13 "java/lang/IllegalArgumentException") (by decide +kernel)) (ex_u hX (List.mem_of_getElem? (i := 0) rfl) _ (List.mem_of_getElem? (i := 3) rfl)) hce hcv hcl ?_
      refine lv_astore_n (lv' := [(3, .ref q9), (0, .ref (ad 0)), (1, .int x0), (2, .ref (ad 154))]) hx hb dL_recount_12 rfl hl (by decide) rfl (fun ls hl => ?_)
      refine lv_iconst (v := nI 1) hx hb dL_recount_13 (by decide) ?_
      refine vx_ret ?_
      exact W.iret (v := nI 1) hx hb hr (fun t2 ht2 hW => ⟨⟨nI 1, u, rfl, Or.inr (⟨rfl, hxe⟩), (by show va_P D vwCl _ t2.heap; rw [ht2, ← ht]; exact hPB)⟩, hS.F ht2⟩) hS.2.2 dL_recount_14
  · refine lv_i2l hx hb dL_recount_7 rfl ?_
    refine wr_last (x := w) hx hb hE.1 (by rw [← ht]; exact hB_3) hD hS (by omega) dL_recount_8 (fun H2 locs2 hP2 hS => ?_)
    refine lv_goto (tgt := 15) hx hb dL_recount_9 (by decide) ?_
    refine lv_iconst (v := nI 0) hx hb dL_recount_15 (by decide) ?_
    refine vx_ret ?_
    exact W.iret (v := nI 0) hx hb hr (fun t2 ht2 hW => ⟨⟨nI 0, st u 154 0 w, rfl, Or.inl ⟨rfl, w, u, hr_3, rfl⟩, (by show va_P D vwCl _ t2.heap; rw [ht2]; exact hP2)⟩, hS.F ht2⟩) hS.2.2 dL_recount_16

set_option maxHeartbeats 1000000 in
set_option maxRecDepth 100000 in
theorem kL_spoil (l : Launch) {D : va_G} {cy ad : Nat → Nat} {n : Nat} {M : Mm} {A : Nat → Prop} (hD : ∀ M, va_D A (wd cy ad n M ++ [])) (hn : 155 ≤ n) {x0 x1 x2 x3 : Int32} {P : Mm → Prop} {X : String → Mm → Prop} (hXE : ∀ E u, X E u → E = "java/lang/IllegalArgumentException" ∨ E = "java/lang/IndexOutOfBoundsException") (hM : vx_Met l yX5_spoil wsX5_spoil ({ frames := 7, cells := 2, slots := 12, locals := 107 }) (va_Pc [.ref (ad 0), .int x0, .int x1, .int x2, .int x3] (TW D cy (wd cy ad n M ++ []) A)) (va_Qv (S := Mm) (fun u => P u) (fun u t => va_P D vwCl (wd cy ad n u ++ []) t.heap) A) (vx_X (S := Mm) (fun _ => True) (fun E u t => X E u ∧ va_P D vwCl (wd cy ad n u ++ []) t.heap) A) 2 12 A) : vx_Met l yL_spoil wsL_spoil ({ frames := 8, cells := 2, slots := 12, locals := 138 }) (va_Pc [.ref (ad 0), .int x0, .int x1, .int x2, .int x3] (LW D cy (wd cy ad n M ++ []) A)) (va_Qi (S := Mm) (fun r u => (r = nI 0 ∧ P u) ∨ (r = nI 1 ∧ X "java/lang/IllegalArgumentException" u) ∨ (r = nI 2 ∧ X "java/lang/IndexOutOfBoundsException" u)) (fun u t => va_P D vwCl (wd cy ad n u ++ []) t.heap) A) (vx_X (S := Mm) (fun _ => False) (fun _ _ _ => False) A) 2 12 A := by
  refine vx_ofWH (cc := cL_spoil) (maxL := 6) (ret := some .int) (hh := [(0, 9, 12, 13), (0, 9, 16, 36)]) (by decide) rfl ?_
  intro p e s m args below meth c s₁ B hml hv
  obtain ⟨rfl, ⟨hP, hE, hA, hX⟩, hN1, hN2, hN3, hN4⟩ := hv
  have hx := B.exec
  have hb := B.bytes
  have hr := B.returns
  have hts := atoms_spec (ws := wsL_spoil) B.pre
  have hown : s.vm.findClass RL = some m.cls := findClass_of_methodNamed B.named
  have htab := vx_table (x := yL_spoil) B (hts _ List.mem_cons_self)
  have hS : va_S A s.heap s.heap [] := va_S.rf
  have hl := lv_entry ([.ref (ad 0), .int x0, .int x1, .int x2, .int x3]) (n := 6) (Nat.le_of_ble_eq_true rfl)
  rw [lg_entry_eq]
  generalize (lg_sl ([.ref (ad 0), .int x0, .int x1, .int x2, .int x3]) ++ List.replicate (6 - (lg_sl ([.ref (ad 0), .int x0, .int x1, .int x2, .int x3])).length) Slot.unset).toArray = ls at hl ⊢
  have hl : lv_has ls 6 [(0, .ref (ad 0)), (1, .int x0), (2, .int x1), (3, .int x2), (4, .int x3)] := hl
  refine lv_aload_n hx hb dL_spoil_0 rfl (lv_at hl 0 rfl) ?_
  refine lv_iload_n hx hb dL_spoil_1 rfl (lv_at hl 1 rfl) ?_
  refine lv_iload_n hx hb dL_spoil_2 rfl (lv_at hl 2 rfl) ?_
  refine lv_iload_n hx hb dL_spoil_3 rfl (lv_at hl 3 rfl) ?_
  refine lv_iload hx hb dL_spoil_4 (lv_at hl 4 rfl) ?_
  refine vx_callv (vx_runV (As := [.int x0, .int x1, .int x2, .int x3]) (rest := []) ⟨hx, hb, hml, hown, hts⟩ hM (cwV 4 hts gL_spoil_X5_spoil rfl rfl rfl (by decide +kernel) ⟨Nat.le_of_ble_eq_true rfl, Nat.le_of_ble_eq_true rfl⟩) (tw_pv (ci := 4) (q := (RX5, TX5, 11)) hE hP hS hA hX rfl (wd_at (M := M) (show 0 < n by omega) (g_0 cy ad _))) rfl rfl hl.1 rfl (lv_room (Nat.le_of_ble_eq_true rfl)) dL_spoil_6 ⟨Nat.le_of_ble_eq_true rfl, Nat.le_of_ble_eq_true rfl⟩) hS (fun q _ h => h) (fun q h => h) (fun q _ h => h) (fun E9 ce q9 u t H1 locs1 ht hvm hpx hBX hz1 hk1 hS hce hcv hcl => ?_) (fun u t H1 locs ht hvm hr_3 hB_3 hz1 hk1 hS => ?_)
  · obtain ⟨hxe, hPB⟩ := hBX
    rcases hXE _ _ hxe with rfl | rfl
    · refine vx_catch hown [] { startPc := 0, endPc := 9, handlerPc := 12, catchType := 13 } [{ startPc := 0, endPc := 9, handlerPc := 16, catchType := 36 }] (by rw [htab]; rfl) (fun z hz => nomatch hz) rfl (by decide) (hts (.classLink RL 13 "java/lang/IllegalArgumentException") (by decide +kernel)) (ex_u hX (List.mem_of_getElem? (i := 0) rfl) _ (List.mem_of_getElem? (i := 3) rfl)) hce hcv hcl ?_
      refine lv_astore (lv' := [(5, .ref q9), (0, .ref (ad 0)), (1, .int x0), (2, .int x1), (3, .int x2), (4, .int x3)]) hx hb dL_spoil_12 hl (by decide) rfl (fun ls hl => ?_)
      refine lv_iconst (v := nI 1) hx hb dL_spoil_14 (by decide) ?_
      refine vx_ret ?_
      exact W.iret (v := nI 1) hx hb hr (fun t2 ht2 hW => ⟨⟨nI 1, u, rfl, Or.inr (Or.inl ⟨rfl, hxe⟩), (by show va_P D vwCl _ t2.heap; rw [ht2, ← ht]; exact hPB)⟩, hS.F ht2⟩) hS.2.2 dL_spoil_15
    · refine vx_catch hown [{ startPc := 0, endPc := 9, handlerPc := 12, catchType := 13 }] { startPc := 0, endPc := 9, handlerPc := 16, catchType := 36 } [] (by rw [htab]; rfl) (fun z hz => (fun hz => (List.mem_cons.mp hz).elim (fun e9 => by subst e9; exact Or.inr ⟨by decide, _, hts (.classLink RL 13 "java/lang/IllegalArgumentException") (by decide +kernel), hN4⟩) (fun hz => nomatch hz)) hz) rfl (by decide) (hts (.classLink RL 36 "java/lang/IndexOutOfBoundsException") (by decide +kernel)) (ex_u hX (List.mem_of_getElem? (i := 2) rfl) _ (List.mem_of_getElem? (i := 3) rfl)) hce hcv hcl ?_
      refine lv_astore (lv' := [(5, .ref q9), (0, .ref (ad 0)), (1, .int x0), (2, .int x1), (3, .int x2), (4, .int x3)]) hx hb dL_spoil_16 hl (by decide) rfl (fun ls hl => ?_)
      refine lv_iconst (v := nI 2) hx hb dL_spoil_18 (by decide) ?_
      refine vx_ret ?_
      exact W.iret (v := nI 2) hx hb hr (fun t2 ht2 hW => ⟨⟨nI 2, u, rfl, Or.inr (Or.inr (⟨rfl, hxe⟩)), (by show va_P D vwCl _ t2.heap; rw [ht2, ← ht]; exact hPB)⟩, hS.F ht2⟩) hS.2.2 dL_spoil_19
  · refine lv_goto (tgt := 20) hx hb dL_spoil_9 (by decide) ?_
    refine lv_iconst (v := nI 0) hx hb dL_spoil_20 (by decide) ?_
    refine vx_ret ?_
    exact W.iret (v := nI 0) hx hb hr (fun t2 ht2 hW => ⟨⟨nI 0, u, rfl, Or.inl ⟨rfl, hr_3⟩, (by show va_P D vwCl _ t2.heap; rw [ht2, ← ht]; exact hB_3)⟩, hS.F ht2⟩) hS.2.2 dL_spoil_21

set_option maxHeartbeats 1000000 in
set_option maxRecDepth 100000 in
theorem kL_close (l : Launch) {D : va_G} {cy ad : Nat → Nat} {n : Nat} {M : Mm} {A : Nat → Prop} (hD : ∀ M, va_D A (wd cy ad n M ++ [])) (hn : 155 ≤ n) {x0 : Int32} {P : Int32 → Mm → Prop} {X : String → Mm → Prop} (hXE : ∀ E u, X E u → E = "java/lang/IllegalArgumentException" ∨ E = "java/lang/IllegalStateException") (hM : vx_Met l yX5_close wsX5_close ({ frames := 7, cells := 2, slots := 12, locals := 107 }) (va_Pc [.ref (ad 0), .int x0] (TW D cy (wd cy ad n M ++ []) A)) (va_Qi (S := Mm) (fun r u => P r u) (fun u t => va_P D vwCl (wd cy ad n u ++ []) t.heap) A) (vx_X (S := Mm) (fun _ => True) (fun E u t => X E u ∧ va_P D vwCl (wd cy ad n u ++ []) t.heap) A) 2 12 A) : vx_Met l yL_close wsL_close ({ frames := 8, cells := 2, slots := 12, locals := 133 }) (va_Pc [.ref (ad 0), .int x0, .ref (ad 154)] (LW D cy (wd cy ad n M ++ []) A)) (va_Qi (S := Mm) (fun r u => (r = nI 0 ∧ ∃ w u0, P w u0 ∧ u = st u0 154 0 w) ∨ (r = nI 1 ∧ X "java/lang/IllegalArgumentException" u) ∨ (r = nI 2 ∧ X "java/lang/IllegalStateException" u)) (fun u t => va_P D vwCl (wd cy ad n u ++ []) t.heap) A) (vx_X (S := Mm) (fun _ => False) (fun _ _ _ => False) A) 2 12 A := by
  refine vx_ofWH (cc := cL_close) (maxL := 4) (ret := some .int) (hh := [(0, 9, 12, 13), (0, 9, 15, 15)]) (by decide) rfl ?_
  intro p e s m args below meth c s₁ B hml hv
  obtain ⟨rfl, ⟨hP, hE, hA, hX⟩, hN1, hN2, hN3, hN4⟩ := hv
  have hx := B.exec
  have hb := B.bytes
  have hr := B.returns
  have hts := atoms_spec (ws := wsL_close) B.pre
  have hown : s.vm.findClass RL = some m.cls := findClass_of_methodNamed B.named
  have htab := vx_table (x := yL_close) B (hts _ List.mem_cons_self)
  have hS : va_S A s.heap s.heap [] := va_S.rf
  have hl := lv_entry ([.ref (ad 0), .int x0, .ref (ad 154)]) (n := 4) (Nat.le_of_ble_eq_true rfl)
  rw [lg_entry_eq]
  generalize (lg_sl ([.ref (ad 0), .int x0, .ref (ad 154)]) ++ List.replicate (4 - (lg_sl ([.ref (ad 0), .int x0, .ref (ad 154)])).length) Slot.unset).toArray = ls at hl ⊢
  have hl : lv_has ls 4 [(0, .ref (ad 0)), (1, .int x0), (2, .ref (ad 154))] := hl
  refine lv_aload_n hx hb dL_close_0 rfl (lv_at hl 2 rfl) ?_
  refine lv_iconst (v := nI 0) hx hb dL_close_1 (by decide) ?_
  refine lv_aload_n hx hb dL_close_2 rfl (lv_at hl 0 rfl) ?_
  refine lv_iload_n hx hb dL_close_3 rfl (lv_at hl 1 rfl) ?_
  refine vx_calli (vx_runV (As := [.int x0]) (rest := [.int (nI 0), .ref (ad 154)]) ⟨hx, hb, hml, hown, hts⟩ hM (cwV 1 hts gL_close_X5_close rfl rfl rfl (by decide +kernel) ⟨Nat.le_of_ble_eq_true rfl, Nat.le_of_ble_eq_true rfl⟩) (tw_pv (ci := 4) (q := (RX5, TX5, 11)) hE hP hS hA hX rfl (wd_at (M := M) (show 0 < n by omega) (g_0 cy ad _))) rfl rfl hl.1 rfl (lv_room (Nat.le_of_ble_eq_true rfl)) dL_close_4 ⟨Nat.le_of_ble_eq_true rfl, Nat.le_of_ble_eq_true rfl⟩) hS (fun q _ h => h) (fun q h => h) (fun q _ h => h) (fun E9 ce q9 u t H1 locs1 ht hvm hpx hBX hz1 hk1 hS hce hcv hcl => ?_) (fun w u t H1 locs ht hvm hr_3 hB_3 hz1 hk1 hS => ?_)
  · obtain ⟨hxe, hPB⟩ := hBX
    rcases hXE _ _ hxe with rfl | rfl
    · refine vx_catch hown [] { startPc := 0, endPc := 9, handlerPc := 12, catchType := 13 } [{ startPc := 0, endPc := 9, handlerPc := 15, catchType := 15 }] (by rw [htab]; rfl) (fun z hz => nomatch hz) rfl (by decide) (hts (.classLink RL 13 "java/lang/IllegalArgumentException") (by decide +kernel)) (ex_u hX (List.mem_of_getElem? (i := 0) rfl) _ (List.mem_of_getElem? (i := 3) rfl)) hce hcv hcl ?_
      refine lv_astore_n (lv' := [(3, .ref q9), (0, .ref (ad 0)), (1, .int x0), (2, .ref (ad 154))]) hx hb dL_close_12 rfl hl (by decide) rfl (fun ls hl => ?_)
      refine lv_iconst (v := nI 1) hx hb dL_close_13 (by decide) ?_
      refine vx_ret ?_
      exact W.iret (v := nI 1) hx hb hr (fun t2 ht2 hW => ⟨⟨nI 1, u, rfl, Or.inr (Or.inl ⟨rfl, hxe⟩), (by show va_P D vwCl _ t2.heap; rw [ht2, ← ht]; exact hPB)⟩, hS.F ht2⟩) hS.2.2 dL_close_14
    · refine vx_catch hown [{ startPc := 0, endPc := 9, handlerPc := 12, catchType := 13 }] { startPc := 0, endPc := 9, handlerPc := 15, catchType := 15 } [] (by rw [htab]; rfl) (fun z hz => (fun hz => (List.mem_cons.mp hz).elim (fun e9 => by subst e9; exact Or.inr ⟨by decide, _, hts (.classLink RL 13 "java/lang/IllegalArgumentException") (by decide +kernel), hN1⟩) (fun hz => nomatch hz)) hz) rfl (by decide) (hts (.classLink RL 15 "java/lang/IllegalStateException") (by decide +kernel)) (ex_u hX (List.mem_of_getElem? (i := 1) rfl) _ (List.mem_of_getElem? (i := 3) rfl)) hce hcv hcl ?_
      refine lv_astore_n (lv' := [(3, .ref q9), (0, .ref (ad 0)), (1, .int x0), (2, .ref (ad 154))]) hx hb dL_close_15 rfl hl (by decide) rfl (fun ls hl => ?_)
      refine lv_iconst (v := nI 2) hx hb dL_close_16 (by decide) ?_
      refine vx_ret ?_
      exact W.iret (v := nI 2) hx hb hr (fun t2 ht2 hW => ⟨⟨nI 2, u, rfl, Or.inr (Or.inr (⟨rfl, hxe⟩)), (by show va_P D vwCl _ t2.heap; rw [ht2, ← ht]; exact hPB)⟩, hS.F ht2⟩) hS.2.2 dL_close_17
  · refine lv_i2l hx hb dL_close_7 rfl ?_
    refine wr_last (x := w) hx hb hE.1 (by rw [← ht]; exact hB_3) hD hS (by omega) dL_close_8 (fun H2 locs2 hP2 hS => ?_)
    refine lv_goto (tgt := 18) hx hb dL_close_9 (by decide) ?_
    refine lv_iconst (v := nI 0) hx hb dL_close_18 (by decide) ?_
    refine vx_ret ?_
    exact W.iret (v := nI 0) hx hb hr (fun t2 ht2 hW => ⟨⟨nI 0, st u 154 0 w, rfl, Or.inl ⟨rfl, w, u, hr_3, rfl⟩, (by show va_P D vwCl _ t2.heap; rw [ht2]; exact hP2)⟩, hS.F ht2⟩) hS.2.2 dL_close_19

set_option maxHeartbeats 1000000 in
set_option maxRecDepth 100000 in
theorem kL_export (l : Launch) {D : va_G} {cy ad : Nat → Nat} {n : Nat} {M : Mm} {A : Nat → Prop} (hD : ∀ M, va_D A (wd cy ad n M ++ [])) (hn : 155 ≤ n) {x0 : Int32} {P : Int32 → Mm → Prop} {X : String → Mm → Prop} (hXE : ∀ E u, X E u → E = "java/lang/IllegalArgumentException") (hM : vx_Met l yX5_export wsX5_export ({ frames := 7, cells := 1, slots := 6, locals := 107 }) (va_Pc [.ref (ad 0), .int x0] (TW D cy (wd cy ad n M ++ []) A)) (va_Qi (S := Mm) (fun r u => P r u) (fun u t => va_P D vwCl (wd cy ad n u ++ []) t.heap) A) (vx_X (S := Mm) (fun _ => True) (fun E u t => X E u ∧ va_P D vwCl (wd cy ad n u ++ []) t.heap) A) 1 6 A) : vx_Met l yL_export wsL_export ({ frames := 8, cells := 1, slots := 6, locals := 134 }) (va_Pc [.ref (ad 0), .int x0, .ref (ad 154)] (LW D cy (wd cy ad n M ++ []) A)) (va_Qi (S := Mm) (fun r u => (r = nI 0 ∧ ∃ w u0, P w u0 ∧ u = st u0 154 0 w) ∨ (r = nI 1 ∧ X "java/lang/IllegalArgumentException" u)) (fun u t => va_P D vwCl (wd cy ad n u ++ []) t.heap) A) (vx_X (S := Mm) (fun _ => False) (fun _ _ _ => False) A) 1 6 A := by
  refine vx_ofWH (cc := cL_export) (maxL := 4) (ret := some .int) (hh := [(0, 9, 12, 13)]) (by decide) rfl ?_
  intro p e s m args below meth c s₁ B hml hv
  obtain ⟨rfl, ⟨hP, hE, hA, hX⟩, hN1, hN2, hN3, hN4⟩ := hv
  have hx := B.exec
  have hb := B.bytes
  have hr := B.returns
  have hts := atoms_spec (ws := wsL_export) B.pre
  have hown : s.vm.findClass RL = some m.cls := findClass_of_methodNamed B.named
  have htab := vx_table (x := yL_export) B (hts _ List.mem_cons_self)
  have hS : va_S A s.heap s.heap [] := va_S.rf
  have hl := lv_entry ([.ref (ad 0), .int x0, .ref (ad 154)]) (n := 4) (Nat.le_of_ble_eq_true rfl)
  rw [lg_entry_eq]
  generalize (lg_sl ([.ref (ad 0), .int x0, .ref (ad 154)]) ++ List.replicate (4 - (lg_sl ([.ref (ad 0), .int x0, .ref (ad 154)])).length) Slot.unset).toArray = ls at hl ⊢
  have hl : lv_has ls 4 [(0, .ref (ad 0)), (1, .int x0), (2, .ref (ad 154))] := hl
  refine lv_aload_n hx hb dL_export_0 rfl (lv_at hl 2 rfl) ?_
  refine lv_iconst (v := nI 0) hx hb dL_export_1 (by decide) ?_
  refine lv_aload_n hx hb dL_export_2 rfl (lv_at hl 0 rfl) ?_
  refine lv_iload_n hx hb dL_export_3 rfl (lv_at hl 1 rfl) ?_
  refine vx_calli (vx_runV (As := [.int x0]) (rest := [.int (nI 0), .ref (ad 154)]) ⟨hx, hb, hml, hown, hts⟩ hM (cwV 1 hts gL_export_X5_export rfl rfl rfl (by decide +kernel) ⟨Nat.le_of_ble_eq_true rfl, Nat.le_of_ble_eq_true rfl⟩) (tw_pv (ci := 4) (q := (RX5, TX5, 11)) hE hP hS hA hX rfl (wd_at (M := M) (show 0 < n by omega) (g_0 cy ad _))) rfl rfl hl.1 rfl (lv_room (Nat.le_of_ble_eq_true rfl)) dL_export_4 ⟨Nat.le_of_ble_eq_true rfl, Nat.le_of_ble_eq_true rfl⟩) hS (fun q _ h => h) (fun q h => h) (fun q _ h => h) (fun E9 ce q9 u t H1 locs1 ht hvm hpx hBX hz1 hk1 hS hce hcv hcl => ?_) (fun w u t H1 locs ht hvm hr_3 hB_3 hz1 hk1 hS => ?_)
  · obtain ⟨hxe, hPB⟩ := hBX
    rcases hXE _ _ hxe with rfl
    · refine vx_catch hown [] { startPc := 0, endPc := 9, handlerPc := 12, catchType := 13 } [] (by rw [htab]; rfl) (fun z hz => nomatch hz) rfl (by decide) (hts (.classLink RL 13 "java/lang/IllegalArgumentException") (by decide +kernel)) (ex_u hX (List.mem_of_getElem? (i := 0) rfl) _ (List.mem_of_getElem? (i := 3) rfl)) hce hcv hcl ?_
      refine lv_astore_n (lv' := [(3, .ref q9), (0, .ref (ad 0)), (1, .int x0), (2, .ref (ad 154))]) hx hb dL_export_12 rfl hl (by decide) rfl (fun ls hl => ?_)
      refine lv_iconst (v := nI 1) hx hb dL_export_13 (by decide) ?_
      refine vx_ret ?_
      exact W.iret (v := nI 1) hx hb hr (fun t2 ht2 hW => ⟨⟨nI 1, u, rfl, Or.inr (⟨rfl, hxe⟩), (by show va_P D vwCl _ t2.heap; rw [ht2, ← ht]; exact hPB)⟩, hS.F ht2⟩) hS.2.2 dL_export_14
  · refine lv_i2l hx hb dL_export_7 rfl ?_
    refine wr_last (x := w) hx hb hE.1 (by rw [← ht]; exact hB_3) hD hS (by omega) dL_export_8 (fun H2 locs2 hP2 hS => ?_)
    refine lv_goto (tgt := 15) hx hb dL_export_9 (by decide) ?_
    refine lv_iconst (v := nI 0) hx hb dL_export_15 (by decide) ?_
    refine vx_ret ?_
    exact W.iret (v := nI 0) hx hb hr (fun t2 ht2 hW => ⟨⟨nI 0, st u 154 0 w, rfl, Or.inl ⟨rfl, w, u, hr_3, rfl⟩, (by show va_P D vwCl _ t2.heap; rw [ht2]; exact hP2)⟩, hS.F ht2⟩) hS.2.2 dL_export_16

set_option maxHeartbeats 1000000 in
set_option maxRecDepth 100000 in
theorem kL_bundle (l : Launch) {D : va_G} {cy ad : Nat → Nat} {n : Nat} {M : Mm} {A : Nat → Prop} (hD : ∀ M, va_D A (wd cy ad n M ++ [])) (hn : 155 ≤ n) {x0 : Int32} {P : Int32 → Mm → Prop} {X : String → Mm → Prop} (hXE : ∀ E u, X E u → E = "java/lang/IndexOutOfBoundsException") (hM : vx_Met l yX5_bundle wsX5_bundle ({ frames := 6, cells := 1, slots := 6, locals := 86 }) (va_Pc [.ref (ad 0), .int x0] (TW D cy (wd cy ad n M ++ []) A)) (va_Qi (S := Mm) (fun r u => P r u) (fun u t => va_P D vwCl (wd cy ad n u ++ []) t.heap) A) (vx_X (S := Mm) (fun _ => True) (fun E u t => X E u ∧ va_P D vwCl (wd cy ad n u ++ []) t.heap) A) 1 6 A) : vx_Met l yL_bundle wsL_bundle ({ frames := 7, cells := 1, slots := 6, locals := 111 }) (va_Pc [.ref (ad 0), .int x0, .ref (ad 154)] (LW D cy (wd cy ad n M ++ []) A)) (va_Qi (S := Mm) (fun r u => (r = nI 0 ∧ ∃ w u0, P w u0 ∧ u = st u0 154 0 w) ∨ (r = nI 1 ∧ X "java/lang/IndexOutOfBoundsException" u)) (fun u t => va_P D vwCl (wd cy ad n u ++ []) t.heap) A) (vx_X (S := Mm) (fun _ => False) (fun _ _ _ => False) A) 1 6 A := by
  refine vx_ofWH (cc := cL_bundle) (maxL := 4) (ret := some .int) (hh := [(0, 9, 12, 36)]) (by decide) rfl ?_
  intro p e s m args below meth c s₁ B hml hv
  obtain ⟨rfl, ⟨hP, hE, hA, hX⟩, hN1, hN2, hN3, hN4⟩ := hv
  have hx := B.exec
  have hb := B.bytes
  have hr := B.returns
  have hts := atoms_spec (ws := wsL_bundle) B.pre
  have hown : s.vm.findClass RL = some m.cls := findClass_of_methodNamed B.named
  have htab := vx_table (x := yL_bundle) B (hts _ List.mem_cons_self)
  have hS : va_S A s.heap s.heap [] := va_S.rf
  have hl := lv_entry ([.ref (ad 0), .int x0, .ref (ad 154)]) (n := 4) (Nat.le_of_ble_eq_true rfl)
  rw [lg_entry_eq]
  generalize (lg_sl ([.ref (ad 0), .int x0, .ref (ad 154)]) ++ List.replicate (4 - (lg_sl ([.ref (ad 0), .int x0, .ref (ad 154)])).length) Slot.unset).toArray = ls at hl ⊢
  have hl : lv_has ls 4 [(0, .ref (ad 0)), (1, .int x0), (2, .ref (ad 154))] := hl
  refine lv_aload_n hx hb dL_bundle_0 rfl (lv_at hl 2 rfl) ?_
  refine lv_iconst (v := nI 0) hx hb dL_bundle_1 (by decide) ?_
  refine lv_aload_n hx hb dL_bundle_2 rfl (lv_at hl 0 rfl) ?_
  refine lv_iload_n hx hb dL_bundle_3 rfl (lv_at hl 1 rfl) ?_
  refine vx_calli (vx_runV (As := [.int x0]) (rest := [.int (nI 0), .ref (ad 154)]) ⟨hx, hb, hml, hown, hts⟩ hM (cwV 1 hts gL_bundle_X5_bundle rfl rfl rfl (by decide +kernel) ⟨Nat.le_of_ble_eq_true rfl, Nat.le_of_ble_eq_true rfl⟩) (tw_pv (ci := 4) (q := (RX5, TX5, 11)) hE hP hS hA hX rfl (wd_at (M := M) (show 0 < n by omega) (g_0 cy ad _))) rfl rfl hl.1 rfl (lv_room (Nat.le_of_ble_eq_true rfl)) dL_bundle_4 ⟨Nat.le_of_ble_eq_true rfl, Nat.le_of_ble_eq_true rfl⟩) hS (fun q _ h => h) (fun q h => h) (fun q _ h => h) (fun E9 ce q9 u t H1 locs1 ht hvm hpx hBX hz1 hk1 hS hce hcv hcl => ?_) (fun w u t H1 locs ht hvm hr_3 hB_3 hz1 hk1 hS => ?_)
  · obtain ⟨hxe, hPB⟩ := hBX
    rcases hXE _ _ hxe with rfl
    · refine vx_catch hown [] { startPc := 0, endPc := 9, handlerPc := 12, catchType := 36 } [] (by rw [htab]; rfl) (fun z hz => nomatch hz) rfl (by decide) (hts (.classLink RL 36 "java/lang/IndexOutOfBoundsException") (by decide +kernel)) (ex_u hX (List.mem_of_getElem? (i := 2) rfl) _ (List.mem_of_getElem? (i := 3) rfl)) hce hcv hcl ?_
      refine lv_astore_n (lv' := [(3, .ref q9), (0, .ref (ad 0)), (1, .int x0), (2, .ref (ad 154))]) hx hb dL_bundle_12 rfl hl (by decide) rfl (fun ls hl => ?_)
      refine lv_iconst (v := nI 1) hx hb dL_bundle_13 (by decide) ?_
      refine vx_ret ?_
      exact W.iret (v := nI 1) hx hb hr (fun t2 ht2 hW => ⟨⟨nI 1, u, rfl, Or.inr (⟨rfl, hxe⟩), (by show va_P D vwCl _ t2.heap; rw [ht2, ← ht]; exact hPB)⟩, hS.F ht2⟩) hS.2.2 dL_bundle_14
  · refine lv_i2l hx hb dL_bundle_7 rfl ?_
    refine wr_last (x := w) hx hb hE.1 (by rw [← ht]; exact hB_3) hD hS (by omega) dL_bundle_8 (fun H2 locs2 hP2 hS => ?_)
    refine lv_goto (tgt := 15) hx hb dL_bundle_9 (by decide) ?_
    refine lv_iconst (v := nI 0) hx hb dL_bundle_15 (by decide) ?_
    refine vx_ret ?_
    exact W.iret (v := nI 0) hx hb hr (fun t2 ht2 hW => ⟨⟨nI 0, st u 154 0 w, rfl, Or.inl ⟨rfl, w, u, hr_3, rfl⟩, (by show va_P D vwCl _ t2.heap; rw [ht2]; exact hP2)⟩, hS.F ht2⟩) hS.2.2 dL_bundle_16

set_option maxHeartbeats 1000000 in
set_option maxRecDepth 100000 in
theorem kL_poke (l : Launch) {D : va_G} {cy ad : Nat → Nat} {n : Nat} {M : Mm} {A : Nat → Prop} (hD : ∀ M, va_D A (wd cy ad n M ++ [])) (hn : 155 ≤ n) {x0 x1 : Int32} {P : Mm → Prop} {X : String → Mm → Prop} (hXE : ∀ E u, X E u → E = "java/lang/IndexOutOfBoundsException") (hM : vx_Met l yX5_poke wsX5_poke ({ frames := 6, cells := 1, slots := 6, locals := 86 }) (va_Pc [.ref (ad 0), .int x0, .int x1] (TW D cy (wd cy ad n M ++ []) A)) (va_Qv (S := Mm) (fun u => P u) (fun u t => va_P D vwCl (wd cy ad n u ++ []) t.heap) A) (vx_X (S := Mm) (fun _ => True) (fun E u t => X E u ∧ va_P D vwCl (wd cy ad n u ++ []) t.heap) A) 1 6 A) : vx_Met l yL_poke wsL_poke ({ frames := 7, cells := 1, slots := 6, locals := 112 }) (va_Pc [.ref (ad 0), .int x0, .int x1] (LW D cy (wd cy ad n M ++ []) A)) (va_Qi (S := Mm) (fun r u => (r = nI 0 ∧ P u) ∨ (r = nI 1 ∧ X "java/lang/IndexOutOfBoundsException" u)) (fun u t => va_P D vwCl (wd cy ad n u ++ []) t.heap) A) (vx_X (S := Mm) (fun _ => False) (fun _ _ _ => False) A) 1 6 A := by
  refine vx_ofWH (cc := cL_poke) (maxL := 4) (ret := some .int) (hh := [(0, 6, 9, 36)]) (by decide) rfl ?_
  intro p e s m args below meth c s₁ B hml hv
  obtain ⟨rfl, ⟨hP, hE, hA, hX⟩, hN1, hN2, hN3, hN4⟩ := hv
  have hx := B.exec
  have hb := B.bytes
  have hr := B.returns
  have hts := atoms_spec (ws := wsL_poke) B.pre
  have hown : s.vm.findClass RL = some m.cls := findClass_of_methodNamed B.named
  have htab := vx_table (x := yL_poke) B (hts _ List.mem_cons_self)
  have hS : va_S A s.heap s.heap [] := va_S.rf
  have hl := lv_entry ([.ref (ad 0), .int x0, .int x1]) (n := 4) (Nat.le_of_ble_eq_true rfl)
  rw [lg_entry_eq]
  generalize (lg_sl ([.ref (ad 0), .int x0, .int x1]) ++ List.replicate (4 - (lg_sl ([.ref (ad 0), .int x0, .int x1])).length) Slot.unset).toArray = ls at hl ⊢
  have hl : lv_has ls 4 [(0, .ref (ad 0)), (1, .int x0), (2, .int x1)] := hl
  refine lv_aload_n hx hb dL_poke_0 rfl (lv_at hl 0 rfl) ?_
  refine lv_iload_n hx hb dL_poke_1 rfl (lv_at hl 1 rfl) ?_
  refine lv_iload_n hx hb dL_poke_2 rfl (lv_at hl 2 rfl) ?_
  refine vx_callv (vx_runV (As := [.int x0, .int x1]) (rest := []) ⟨hx, hb, hml, hown, hts⟩ hM (cwV 2 hts gL_poke_X5_poke rfl rfl rfl (by decide +kernel) ⟨Nat.le_of_ble_eq_true rfl, Nat.le_of_ble_eq_true rfl⟩) (tw_pv (ci := 4) (q := (RX5, TX5, 11)) hE hP hS hA hX rfl (wd_at (M := M) (show 0 < n by omega) (g_0 cy ad _))) rfl rfl hl.1 rfl (lv_room (Nat.le_of_ble_eq_true rfl)) dL_poke_3 ⟨Nat.le_of_ble_eq_true rfl, Nat.le_of_ble_eq_true rfl⟩) hS (fun q _ h => h) (fun q h => h) (fun q _ h => h) (fun E9 ce q9 u t H1 locs1 ht hvm hpx hBX hz1 hk1 hS hce hcv hcl => ?_) (fun u t H1 locs ht hvm hr_3 hB_3 hz1 hk1 hS => ?_)
  · obtain ⟨hxe, hPB⟩ := hBX
    rcases hXE _ _ hxe with rfl
    · refine vx_catch hown [] { startPc := 0, endPc := 6, handlerPc := 9, catchType := 36 } [] (by rw [htab]; rfl) (fun z hz => nomatch hz) rfl (by decide) (hts (.classLink RL 36 "java/lang/IndexOutOfBoundsException") (by decide +kernel)) (ex_u hX (List.mem_of_getElem? (i := 2) rfl) _ (List.mem_of_getElem? (i := 3) rfl)) hce hcv hcl ?_
      refine lv_astore_n (lv' := [(3, .ref q9), (0, .ref (ad 0)), (1, .int x0), (2, .int x1)]) hx hb dL_poke_9 rfl hl (by decide) rfl (fun ls hl => ?_)
      refine lv_iconst (v := nI 1) hx hb dL_poke_10 (by decide) ?_
      refine vx_ret ?_
      exact W.iret (v := nI 1) hx hb hr (fun t2 ht2 hW => ⟨⟨nI 1, u, rfl, Or.inr (⟨rfl, hxe⟩), (by show va_P D vwCl _ t2.heap; rw [ht2, ← ht]; exact hPB)⟩, hS.F ht2⟩) hS.2.2 dL_poke_11
  · refine lv_goto (tgt := 12) hx hb dL_poke_6 (by decide) ?_
    refine lv_iconst (v := nI 0) hx hb dL_poke_12 (by decide) ?_
    refine vx_ret ?_
    exact W.iret (v := nI 0) hx hb hr (fun t2 ht2 hW => ⟨⟨nI 0, u, rfl, Or.inl ⟨rfl, hr_3⟩, (by show va_P D vwCl _ t2.heap; rw [ht2, ← ht]; exact hB_3)⟩, hS.F ht2⟩) hS.2.2 dL_poke_13

set_option maxHeartbeats 1000000 in
set_option maxRecDepth 100000 in
theorem kL_cut (l : Launch) {D : va_G} {cy ad : Nat → Nat} {n : Nat} {M : Mm} {A : Nat → Prop} (hD : ∀ M, va_D A (wd cy ad n M ++ [])) (hn : 155 ≤ n) {x0 : Int32} {P : Mm → Prop} {X : String → Mm → Prop} (hXE : ∀ E u, X E u → E = "java/lang/IllegalArgumentException") (hM : vx_Met l yX5_cut wsX5_cut ({ frames := 6, cells := 1, slots := 6, locals := 86 }) (va_Pc [.ref (ad 0), .int x0] (TW D cy (wd cy ad n M ++ []) A)) (va_Qv (S := Mm) (fun u => P u) (fun u t => va_P D vwCl (wd cy ad n u ++ []) t.heap) A) (vx_X (S := Mm) (fun _ => True) (fun E u t => X E u ∧ va_P D vwCl (wd cy ad n u ++ []) t.heap) A) 1 6 A) : vx_Met l yL_cut wsL_cut ({ frames := 7, cells := 1, slots := 6, locals := 110 }) (va_Pc [.ref (ad 0), .int x0] (LW D cy (wd cy ad n M ++ []) A)) (va_Qi (S := Mm) (fun r u => (r = nI 0 ∧ P u) ∨ (r = nI 1 ∧ X "java/lang/IllegalArgumentException" u)) (fun u t => va_P D vwCl (wd cy ad n u ++ []) t.heap) A) (vx_X (S := Mm) (fun _ => False) (fun _ _ _ => False) A) 1 6 A := by
  refine vx_ofWH (cc := cL_cut) (maxL := 3) (ret := some .int) (hh := [(0, 5, 8, 13)]) (by decide) rfl ?_
  intro p e s m args below meth c s₁ B hml hv
  obtain ⟨rfl, ⟨hP, hE, hA, hX⟩, hN1, hN2, hN3, hN4⟩ := hv
  have hx := B.exec
  have hb := B.bytes
  have hr := B.returns
  have hts := atoms_spec (ws := wsL_cut) B.pre
  have hown : s.vm.findClass RL = some m.cls := findClass_of_methodNamed B.named
  have htab := vx_table (x := yL_cut) B (hts _ List.mem_cons_self)
  have hS : va_S A s.heap s.heap [] := va_S.rf
  have hl := lv_entry ([.ref (ad 0), .int x0]) (n := 3) (Nat.le_of_ble_eq_true rfl)
  rw [lg_entry_eq]
  generalize (lg_sl ([.ref (ad 0), .int x0]) ++ List.replicate (3 - (lg_sl ([.ref (ad 0), .int x0])).length) Slot.unset).toArray = ls at hl ⊢
  have hl : lv_has ls 3 [(0, .ref (ad 0)), (1, .int x0)] := hl
  refine lv_aload_n hx hb dL_cut_0 rfl (lv_at hl 0 rfl) ?_
  refine lv_iload_n hx hb dL_cut_1 rfl (lv_at hl 1 rfl) ?_
  refine vx_callv (vx_runV (As := [.int x0]) (rest := []) ⟨hx, hb, hml, hown, hts⟩ hM (cwV 1 hts gL_cut_X5_cut rfl rfl rfl (by decide +kernel) ⟨Nat.le_of_ble_eq_true rfl, Nat.le_of_ble_eq_true rfl⟩) (tw_pv (ci := 4) (q := (RX5, TX5, 11)) hE hP hS hA hX rfl (wd_at (M := M) (show 0 < n by omega) (g_0 cy ad _))) rfl rfl hl.1 rfl (lv_room (Nat.le_of_ble_eq_true rfl)) dL_cut_2 ⟨Nat.le_of_ble_eq_true rfl, Nat.le_of_ble_eq_true rfl⟩) hS (fun q _ h => h) (fun q h => h) (fun q _ h => h) (fun E9 ce q9 u t H1 locs1 ht hvm hpx hBX hz1 hk1 hS hce hcv hcl => ?_) (fun u t H1 locs ht hvm hr_3 hB_3 hz1 hk1 hS => ?_)
  · obtain ⟨hxe, hPB⟩ := hBX
    rcases hXE _ _ hxe with rfl
    · refine vx_catch hown [] { startPc := 0, endPc := 5, handlerPc := 8, catchType := 13 } [] (by rw [htab]; rfl) (fun z hz => nomatch hz) rfl (by decide) (hts (.classLink RL 13 "java/lang/IllegalArgumentException") (by decide +kernel)) (ex_u hX (List.mem_of_getElem? (i := 0) rfl) _ (List.mem_of_getElem? (i := 3) rfl)) hce hcv hcl ?_
      refine lv_astore_n (lv' := [(2, .ref q9), (0, .ref (ad 0)), (1, .int x0)]) hx hb dL_cut_8 rfl hl (by decide) rfl (fun ls hl => ?_)
      refine lv_iconst (v := nI 1) hx hb dL_cut_9 (by decide) ?_
      refine vx_ret ?_
      exact W.iret (v := nI 1) hx hb hr (fun t2 ht2 hW => ⟨⟨nI 1, u, rfl, Or.inr (⟨rfl, hxe⟩), (by show va_P D vwCl _ t2.heap; rw [ht2, ← ht]; exact hPB)⟩, hS.F ht2⟩) hS.2.2 dL_cut_10
  · refine lv_goto (tgt := 11) hx hb dL_cut_5 (by decide) ?_
    refine lv_iconst (v := nI 0) hx hb dL_cut_11 (by decide) ?_
    refine vx_ret ?_
    exact W.iret (v := nI 0) hx hb hr (fun t2 ht2 hW => ⟨⟨nI 0, u, rfl, Or.inl ⟨rfl, hr_3⟩, (by show va_P D vwCl _ t2.heap; rw [ht2, ← ht]; exact hB_3)⟩, hS.F ht2⟩) hS.2.2 dL_cut_12

set_option maxHeartbeats 1000000 in
set_option maxRecDepth 100000 in
theorem kL_check (l : Launch) {D : va_G} {cy ad : Nat → Nat} {n : Nat} {M : Mm} {A : Nat → Prop} (hD : ∀ M, va_D A (wd cy ad n M ++ [])) (hn : 155 ≤ n) {x9 : Int32} {P : Int32 → Mm → Prop} {X : String → Mm → Prop} (hXE : ∀ E u, X E u → E = "java/lang/IllegalArgumentException") (hM : vx_Met l yX5_check wsX5_check ({ frames := 6, cells := 9, slots := 38, locals := 149 }) (va_Pc [.ref (ad 0)] (TW D cy (wd cy ad n M ++ []) A)) (va_Qi (S := Mm) (fun r u => P r u) (fun u t => va_P D vwCl (wd cy ad n u ++ []) t.heap) A) (vx_X (S := Mm) (fun _ => True) (fun E u t => X E u ∧ va_P D vwCl (wd cy ad n u ++ []) t.heap) A) 9 38 A) : vx_Met l yL_check wsL_check ({ frames := 7, cells := 9, slots := 38, locals := 173 }) (va_Pc [.ref (ad 0), .ref (ad 154)] (LW D cy (wd cy ad n M ++ []) A)) (va_Qi (S := Mm) (fun r u => (r = nI 0 ∧ ∃ w u0, P w u0 ∧ u = st u0 154 0 w) ∨ (r = nI 1 ∧ X "java/lang/IllegalArgumentException" u)) (fun u t => va_P D vwCl (wd cy ad n u ++ []) t.heap) A) (vx_X (S := Mm) (fun _ => False) (fun _ _ _ => False) A) 9 38 A := by
  refine vx_ofWH (cc := cL_check) (maxL := 3) (ret := some .int) (hh := [(0, 8, 11, 13)]) (by decide) rfl ?_
  intro p e s m args below meth c s₁ B hml hv
  obtain ⟨rfl, ⟨hP, hE, hA, hX⟩, hN1, hN2, hN3, hN4⟩ := hv
  have hx := B.exec
  have hb := B.bytes
  have hr := B.returns
  have hts := atoms_spec (ws := wsL_check) B.pre
  have hown : s.vm.findClass RL = some m.cls := findClass_of_methodNamed B.named
  have htab := vx_table (x := yL_check) B (hts _ List.mem_cons_self)
  have hS : va_S A s.heap s.heap [] := va_S.rf
  have hl := lv_entry ([.ref (ad 0), .ref (ad 154)]) (n := 3) (Nat.le_of_ble_eq_true rfl)
  rw [lg_entry_eq]
  generalize (lg_sl ([.ref (ad 0), .ref (ad 154)]) ++ List.replicate (3 - (lg_sl ([.ref (ad 0), .ref (ad 154)])).length) Slot.unset).toArray = ls at hl ⊢
  have hl : lv_has ls 3 [(0, .ref (ad 0)), (1, .ref (ad 154))] := hl
  refine lv_aload_n hx hb dL_check_0 rfl (lv_at hl 1 rfl) ?_
  refine lv_iconst (v := nI 0) hx hb dL_check_1 (by decide) ?_
  refine lv_aload_n hx hb dL_check_2 rfl (lv_at hl 0 rfl) ?_
  refine vx_calli (vx_runV (As := []) (rest := [.int (nI 0), .ref (ad 154)]) ⟨hx, hb, hml, hown, hts⟩ hM (cwV 0 hts gL_check_X5_check rfl rfl rfl (by decide +kernel) ⟨Nat.le_of_ble_eq_true rfl, Nat.le_of_ble_eq_true rfl⟩) (tw_pv (ci := 4) (q := (RX5, TX5, 11)) hE hP hS hA hX rfl (wd_at (M := M) (show 0 < n by omega) (g_0 cy ad _))) rfl rfl hl.1 rfl (lv_room (Nat.le_of_ble_eq_true rfl)) dL_check_3 ⟨Nat.le_of_ble_eq_true rfl, Nat.le_of_ble_eq_true rfl⟩) hS (fun q _ h => h) (fun q h => h) (fun q _ h => h) (fun E9 ce q9 u t H1 locs1 ht hvm hpx hBX hz1 hk1 hS hce hcv hcl => ?_) (fun w u t H1 locs ht hvm hr_3 hB_3 hz1 hk1 hS => ?_)
  · obtain ⟨hxe, hPB⟩ := hBX
    rcases hXE _ _ hxe with rfl
    · refine vx_catch hown [] { startPc := 0, endPc := 8, handlerPc := 11, catchType := 13 } [] (by rw [htab]; rfl) (fun z hz => nomatch hz) rfl (by decide) (hts (.classLink RL 13 "java/lang/IllegalArgumentException") (by decide +kernel)) (ex_u hX (List.mem_of_getElem? (i := 0) rfl) _ (List.mem_of_getElem? (i := 3) rfl)) hce hcv hcl ?_
      refine lv_astore_n (lv' := [(2, .ref q9), (0, .ref (ad 0)), (1, .ref (ad 154))]) hx hb dL_check_11 rfl hl (by decide) rfl (fun ls hl => ?_)
      refine lv_iconst (v := nI 1) hx hb dL_check_12 (by decide) ?_
      refine vx_ret ?_
      exact W.iret (v := nI 1) hx hb hr (fun t2 ht2 hW => ⟨⟨nI 1, u, rfl, Or.inr (⟨rfl, hxe⟩), (by show va_P D vwCl _ t2.heap; rw [ht2, ← ht]; exact hPB)⟩, hS.F ht2⟩) hS.2.2 dL_check_13
  · refine lv_i2l hx hb dL_check_6 rfl ?_
    refine wr_last (x := w) hx hb hE.1 (by rw [← ht]; exact hB_3) hD hS (by omega) dL_check_7 (fun H2 locs2 hP2 hS => ?_)
    refine lv_goto (tgt := 14) hx hb dL_check_8 (by decide) ?_
    refine lv_iconst (v := nI 0) hx hb dL_check_14 (by decide) ?_
    refine vx_ret ?_
    exact W.iret (v := nI 0) hx hb hr (fun t2 ht2 hW => ⟨⟨nI 0, st u 154 0 w, rfl, Or.inl ⟨rfl, w, u, hr_3, rfl⟩, (by show va_P D vwCl _ t2.heap; rw [ht2]; exact hP2)⟩, hS.F ht2⟩) hS.2.2 dL_check_15
