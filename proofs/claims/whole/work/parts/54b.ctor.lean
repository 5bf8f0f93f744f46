set_option maxHeartbeats 300000 in
set_option maxRecDepth 100000 in
theorem kX1_init (l : Launch) {D : va_G} {cy : Nat → Nat} {ws : va_W} {A : Nat → Prop} {q N : Nat} (hN : N ≤ 12) (hD : va_D A (ws ++ (q, .inr (1, [.null, .int 0])) :: [])) : Met l yX1_init wsX1_init ({ frames := 1, cells := 1, slots := 12, locals := 12 }) (va_Pc [.ref q, .int (nI N)] (RW D cy (ws ++ (q, .inr (1, [.null, .int 0])) :: []) A)) (va_Qv (S := Nat) (fun k => va_D A (ws ++ (q, .inr (1, [.ref k, .int 0])) :: [(k, eInt (cy 0) N (fun _ => 0))])) (fun k t => va_P D vwCl (ws ++ (q, .inr (1, [.ref k, .int 0])) :: [(k, eInt (cy 0) N (fun _ => 0))]) t.heap) A) 1 12 A := by
  refine Met.ofW (cc := cX1_init) (maxL := 2) (ret := none) (by decide) rfl ?_
  intro p e s m args below meth c s₁ B hml hv
  obtain ⟨rfl, hP, hE, hA⟩ := hv
  have hx := B.exec
  have hb := B.bytes
  have hr := B.returns
  have hts := atoms_spec (ws := wsX1_init) B.pre
  have hown : s.vm.findClass RX1 = some m.cls := findClass_of_methodNamed B.named
  have hlocks := B.notSynchronized
  have hin : meth.name = "<init>" := (name_of_methodNamed B.named B.method).1
  have hin_RX1 : ∀ w ∈ u_ws RX1 TX1 2, w ∈ wsX1_init := by decide +kernel
  have hS : va_S A s.heap s.heap [] := va_S.rf
  have hl := lv_entry ([.ref q, .int (nI N)]) (n := 2) (Nat.le_of_ble_eq_true rfl)
  rw [lg_entry_eq]
  generalize (lg_sl ([.ref q, .int (nI N)]) ++ List.replicate (2 - (lg_sl ([.ref q, .int (nI N)])).length) Slot.unset).toArray = ls at hl ⊢
  have hl : lv_has ls 2 [(0, .ref q), (1, .int (nI N))] := hl
  refine lv_aload_n hx hb dX1_init_0 rfl (lv_at hl 0 rfl) ?_
  refine W.objInit hx hb hown (hts (.methodLink RX1 1 objectInit) (by decide +kernel)) (hts (.instanceMethod objectInit) (by decide +kernel)) (hts _ (List.mem_cons_of_mem _ (List.mem_append_left _ (List.mem_of_getElem? (i := 2) rfl)))) rfl (by rw [hml]; exact hl.1) rfl dX1_init_1 (Nat.le_of_ble_eq_true rfl) (Nat.le_of_ble_eq_true rfl) ?_
  refine W.eq (g2 := F0 m 4 ls []) rfl ?_
  refine lv_aload_n hx hb dX1_init_4 rfl (lv_at hl 0 rfl) ?_
  refine lv_iconst (v := 0) hx hb dX1_init_5 (by decide) ?_
  refine va_put (D := D) (ci := 1) (v := .int 0) (ty := .int) (C := RX1) (T := TX1) (N := 2) hx hb hts hin_RX1 tyX1 tyX1_ok nmX1 hown hE.1 hP hD hS ws.length gl_at rfl 1 (by decide) (hts (.fieldLink RX1 7 "RingPetition$KeyRow" "size" "I") (by decide +kernel)) (fun _ h9 => h9) rfl (by decide +kernel) rfl rfl (Nat.le_of_ble_eq_true rfl) dX1_init_6 (fun H locs hP hD hS => ?_)
  rw [gl_set] at hP hD
  have hP : va_P D vwCl (ws ++ (q, .inr (1, [.null, .int 0])) :: []) H := hP
  have hD : va_D A (ws ++ (q, .inr (1, [.null, .int 0])) :: []) := hD
  refine lv_aload_n hx hb dX1_init_9 rfl (lv_at hl 0 rfl) ?_
  refine lv_iload_n hx hb dX1_init_10 rfl (lv_at hl 1 rfl) ?_
  have b1 : ¬ nI N < 0 := by rw [o_lt0, nI_toInt (by omega)]; omega
  have b2 : (nI N).toNatClampNeg = N := nI_clamp (by omega)
  have b3 : N * componentBytes .int ≤ 536870912 := cb_le hN
  have b4 : 0 + N ≤ 12 := by omega
  refine wr_newa (atype := .int) (cy := cy) (a0 := (N, .inl (fun _ => 0))) (ty := .int) hx hb (hts (.arrayClass .int) (by decide +kernel)) rfl 0 rfl hE.1 hP hD hS hA (fun _ => rfl) b1 b2 b3 (Nat.le_of_ble_eq_true rfl) b4 dX1_init_11 (fun k H hP hD hS => ?_)
  rw [gl_app] at hP hD
  refine va_putF (D := D) (ci := 1) (v := .ref k) (ty := (.array .int)) (C := RX1) (T := TX1) (N := 2) hx hb hts hin_RX1 tyX1 tyX1_ok nmX1 hown hE.1 hP hD hS ws.length gl_at rfl 0 (by decide) (hts (.fieldLink RX1 13 "RingPetition$KeyRow" "keys" "[I") (by decide +kernel)) (fun _ h9 => h9) rfl hin rfl (by decide +kernel) rfl rfl (Nat.le_of_ble_eq_true rfl) dX1_init_13 (fun H locs hP hD hS => ?_)
  rw [gl_set] at hP hD
  have hP : va_P D vwCl (ws ++ (q, .inr (1, [.ref k, .int 0])) :: [(k, eInt (cy 0) N (fun _ => 0))]) H := hP
  have hD : va_D A (ws ++ (q, .inr (1, [.ref k, .int 0])) :: [(k, eInt (cy 0) N (fun _ => 0))]) := hD
  refine W.widen (k := 1) (n := 12) (Nat.le_of_ble_eq_true rfl) (by omega) ?_
  exact W.vret hx hb hr (fun t ht hW => ⟨⟨k, rfl, hD, (by show va_P D vwCl _ t.heap; rw [ht]; exact hP)⟩, hS.F ht⟩) hS.2.2 dX1_init_16
