set_option maxHeartbeats 1000000 in
set_option maxRecDepth 100000 in
theorem kL_edit (l : Launch) (hlt : l.stackTraces = false) {D : va_G} {cy ad : Nat → Nat} {n : Nat} {M : Mm} {A : Nat → Prop} (hD : ∀ M, va_D A (wd cy ad n M ++ [])) (hn : 137 ≤ n) {d : Nat} {x v : Int32} (hd : M 5 1 = nI d) (hd8 : d ≤ 8) : vx_Met l yL_edit wsL_edit ({ frames := 7, cells := 1, slots := 6, locals := 120 }) (va_Pc [.ref (ad 0), .int x, .int v] (TW D cy (wd cy ad n M ++ []) A)) (va_Qi (S := Mm) (fun r u => (r = nI 0 ∧ 0 ≤ x.toInt ∧ x.toInt < (d : Int) ∧ u = st M 6 (vN x) v) ∨ (r = nI 1 ∧ ¬ (0 ≤ x.toInt ∧ x.toInt < (d : Int)) ∧ u = M)) (fun u t => va_P D vwCl (wd cy ad n u ++ []) t.heap) A) (vx_X (S := Mm) (fun _ => False) (fun _ _ _ => False) A) 1 6 A := by
  refine vx_ofWH (cc := cL_edit) (maxL := 4) (ret := some .int) (hh := [(0, 6, 9, 36)]) (by decide) rfl ?_
  intro p e s m args below meth c s₁ B hml hv
  obtain ⟨rfl, hP, hE, hA, hX⟩ := hv
  have hx := B.exec
  have hb := B.bytes
  have hr := B.returns
  have hts := atoms_spec (ws := wsL_edit) B.pre
  have hown : s.vm.findClass RL = some m.cls := findClass_of_methodNamed B.named
  have htab := vx_table (x := yL_edit) B (hts _ List.mem_cons_self)
  have hS : va_S A s.heap s.heap [] := va_S.rf
  have hl := lv_entry ([.ref (ad 0), .int x, .int v]) (n := 4) (Nat.le_of_ble_eq_true rfl)
  rw [lg_entry_eq]
  generalize (lg_sl ([.ref (ad 0), .int x, .int v]) ++ List.replicate (4 - (lg_sl ([.ref (ad 0), .int x, .int v])).length) Slot.unset).toArray = ls at hl ⊢
  have hl : lv_has ls 4 [(0, .ref (ad 0)), (1, .int x), (2, .int v)] := hl
  refine lv_aload_n hx hb dL_edit_0 rfl (lv_at hl 0 rfl) ?_
  refine lv_iload_n hx hb dL_edit_1 rfl (lv_at hl 1 rfl) ?_
  refine lv_iload_n hx hb dL_edit_2 rfl (lv_at hl 2 rfl) ?_
  refine vx_callv (vx_runV (As := [.int x, .int v]) (rest := []) ⟨hx, hb, hml, hown, hts⟩ (kX5_edit l hlt hD hn hd hd8) (cwV 2 hts gL_edit_X5_edit rfl rfl rfl (by decide +kernel) ⟨Nat.le_of_ble_eq_true rfl, Nat.le_of_ble_eq_true rfl⟩) (tw_pv (ci := 4) (q := (RX5, TX5, 11)) hE hP hS hA hX rfl (wd_at (M := M) (show 0 < n by omega) (g_0 cy ad _))) rfl rfl hl.1 rfl (lv_room (Nat.le_of_ble_eq_true rfl)) dL_edit_3 ⟨Nat.le_of_ble_eq_true rfl, Nat.le_of_ble_eq_true rfl⟩) hS (fun q _ h => h) (fun q h => h) (fun q _ h => h) (fun E9 ce q9 u t H1 locs1 ht hvm hpx hBX hz1 hk1 hS hce hcv hcl => ?_) (fun u t H1 locs ht hvm hr_3 hB_3 hz1 hk1 hS => ?_)
  · obtain ⟨⟨rfl, hne, hu⟩, hPB⟩ := hBX
    refine vx_catch hown [] { startPc := 0, endPc := 6, handlerPc := 9, catchType := 36 } [] (by rw [htab]; rfl) (fun z hz => nomatch hz) rfl (by decide) (hts (.classLink RL 36 "java/lang/IndexOutOfBoundsException") (by decide +kernel)) (ex_u hX (List.mem_of_getElem? (i := 2) rfl) _ (List.mem_of_getElem? (i := 3) rfl)) hce hcv hcl ?_
    refine lv_astore_n (lv' := [(3, .ref q9), (0, .ref (ad 0)), (1, .int x), (2, .int v)]) hx hb dL_edit_9 rfl hl (by decide) rfl (fun ls hl => ?_)
    refine lv_iconst (v := nI 1) hx hb dL_edit_10 (by decide) ?_
    refine vx_ret ?_
    exact W.iret (v := nI 1) hx hb hr (fun t2 ht2 hW => ⟨⟨nI 1, u, rfl, Or.inr ⟨rfl, hne, hu⟩, (by show va_P D vwCl _ t2.heap; rw [ht2, ← ht]; exact hPB)⟩, hS.F ht2⟩) hS.2.2 dL_edit_11
  · refine lv_goto (tgt := 12) hx hb dL_edit_6 (by decide) ?_
    refine lv_iconst (v := nI 0) hx hb dL_edit_12 (by decide) ?_
    refine vx_ret ?_
    exact W.iret (v := nI 0) hx hb hr (fun t2 ht2 hW => ⟨⟨nI 0, u, rfl, Or.inl ⟨rfl, hr_3⟩, (by show va_P D vwCl _ t2.heap; rw [ht2, ← ht]; exact hB_3)⟩, hS.F ht2⟩) hS.2.2 dL_edit_13
