/-! the world as a memory: cell k holds what row k of M says; the cells' shapes are fixed -/
abbrev Mm : Type := Nat → Nat → Int32
def st (M : Mm) (k j : Nat) (v : Int32) : Mm := va_up M k (upd (M k) j v)
theorem st_at (M : Mm) (k j : Nat) (v : Int32) (a b : Nat) : st M k j v a b = if a = k ∧ b = j then v else M a b := by
  unfold st va_up upd
  by_cases h : a = k
  · subst h; by_cases h2 : b = j <;> simp [h2]
  · simp [h]
theorem st_s (M : Mm) (k j : Nat) (v : Int32) : st M k j v k j = v := by rw [st_at]; simp
theorem st_c (M : Mm) (k : Nat) {j b : Nat} (v : Int32) (h : b ≠ j) : st M k j v k b = M k b := by rw [st_at]; simp [h]
theorem st_r (M : Mm) {k a : Nat} (j : Nat) (v : Int32) (h : a ≠ k) : st M k j v a = M a := by funext b; rw [st_at]; simp [h]
theorem st_row (M : Mm) (k j : Nat) (v : Int32) : st M k j v k = upd (M k) j v := by simp [st, va_up]
abbrev tyL (cy : Nat → Nat) : List (ClassId × FieldType) := [(cy 0, .int), (cy 1, .boolean), (cy 2, .long), (cy 3, .object RX1), (cy 4, .object RX3), (cy 5, .object RX4)]
def mlen (k : Nat) : Nat := match k with
  | 138 => 1013 | 139 => 2027 | 140 => 12 | 141 => 8 | 142 => 48 | 143 => 6 | 144 => 6 | 146 => 6 | 147 => 48 | 148 => 48 | 149 => 384 | 150 => 8 | 151 => 200 | 152 => 6 | _ => 8
abbrev eRef (c : Nat) (n : Nat) (f : Nat → Option Nat) : va_E := .inl (c, n, .inr (.inr (.inr (.inr f))))
abbrev eInt (c : Nat) (n : Nat) (row : Nat → Int32) : va_E := .inl (c, n, .inl row)
abbrev eKR (ad : Nat → Nat) (k : Nat) (row : Nat → Int32) : va_E := .inr (1, [.ref (ad (k + 1)), .int (row 1)])
abbrev eSg (ad : Nat → Nat) (k : Nat) (row : Nat → Int32) : va_E := .inr (2, [.ref (ad (k + 1)), .int (row 1), .int (row 2), .int (row 3)])
abbrev eTp (ad : Nat → Nat) (k : Nat) (row : Nat → Int32) : va_E := .inr (3, [.int (row 0), .int (row 1), .int (row 2), .ref (ad (k + 1)), .int (row 4)])
abbrev eRP (ad : Nat → Nat) (row : Nat → Int32) : va_E := .inr (4, [.ref (ad 1), .ref (ad 3), .int (row 2), .ref (ad 4), .int (row 4), .ref (ad 5), .ref (ad 7), .int (row 7), .ref (ad 8), .ref (ad 10), .ref (ad 12)])
abbrev eMo (ad : Nat → Nat) (row : Nat → Int32) : va_E := .inr (5, [.int (row 0), .ref (ad 138), .ref (ad 139), .int (row 3), .ref (ad 140), .int (row 5), .ref (ad 141), .ref (ad 142), .int (row 8), .ref (ad 143), .ref (ad 144), .ref (ad 145), .ref (ad 146), .ref (ad 147), .ref (ad 148), .ref (ad 149), .int (row 16), .ref (ad 150), .int (row 18), .ref (ad 151), .int (row 20), .ref (ad 152), .int (row 22), .int (row 23), .int (row 24), .ref (ad 153), .int (row 26)])
/-- the shape of cell k -/
def gE (cy ad : Nat → Nat) (k : Nat) (row : Nat → Int32) : va_E :=
  if k < 13 then (match k with
    | 0 => eRP ad row
    | 1 => eKR ad 1 row
    | 2 => eInt (cy 0) 12 row
    | 3 => eRef (cy 3) 8 (fun r => some (ad (13 + 2 * r)))
    | 4 => eRef (cy 5) 6 (fun t => some (ad (29 + 18 * t)))
    | 5 => eSg ad 5 row
    | 6 => eInt (cy 0) 8 row
    | 7 => eInt (cy 0) 200 row
    | 8 => eKR ad 8 row
    | 9 => eInt (cy 0) 6 row
    | 10 => eSg ad 10 row
    | _ => eInt (cy 0) 8 row)
  else if k < 29 then (if (k - 13) % 2 = 0 then eKR ad k row else eInt (cy 0) 6 row)
  else if k < 137 then (if (k - 29) % 18 = 0 then eTp ad k row else if (k - 29) % 18 = 1 then eRef (cy 4) 8 (fun i => some (ad (k + 1 + 2 * i))) else if (k - 29) % 2 = 0 then eSg ad k row else eInt (cy 0) 8 row)
  else if k = 137 then eMo ad row
  else if k = 145 then eInt (cy 1) 6 row
  else if k = 154 then .inl (cy 2, 1, .inr (.inl (fun j => (row j).toInt64)))
  else eInt (cy 0) (mlen k) row
-- which cells are of which shape
def isKR (cy ad : Nat → Nat) (k N : Nat) : Prop := (∀ row, gE cy ad k row = eKR ad k row) ∧ ∀ row, gE cy ad (k + 1) row = eInt (cy 0) N row
def isSg (cy ad : Nat → Nat) (k : Nat) : Prop := (∀ row, gE cy ad k row = eSg ad k row) ∧ ∀ row, gE cy ad (k + 1) row = eInt (cy 0) 8 row
def isTp (cy ad : Nat → Nat) (k : Nat) : Prop := (∀ row, gE cy ad k row = eTp ad k row) ∧ (∀ row, gE cy ad (k + 1) row = eRef (cy 4) 8 (fun i => some (ad (k + 2 + 2 * i)))) ∧ ∀ i, i < 8 → isSg cy ad (k + 2 + 2 * i)
theorem kr_1 (cy ad : Nat → Nat) : isKR cy ad 1 12 := ⟨fun _ => rfl, fun _ => rfl⟩
theorem kr_8 (cy ad : Nat → Nat) : isKR cy ad 8 6 := ⟨fun _ => rfl, fun _ => rfl⟩
theorem kr_r (cy ad : Nat → Nat) {r : Nat} (h : r < 8) : isKR cy ad (13 + 2 * r) 6 := by
  constructor
  · intro row
    unfold gE
    rw [if_neg (by omega), if_pos (by omega), if_pos (by omega)]
  · intro row
    unfold gE
    rw [if_neg (by omega), if_pos (by omega), if_neg (by omega)]
theorem sg_5 (cy ad : Nat → Nat) : isSg cy ad 5 := ⟨fun _ => rfl, fun _ => rfl⟩
theorem sg_10 (cy ad : Nat → Nat) : isSg cy ad 10 := ⟨fun _ => rfl, fun _ => rfl⟩
theorem sg_s (cy ad : Nat → Nat) {t i : Nat} (ht : t < 6) (hi : i < 8) : isSg cy ad (29 + 18 * t + 2 + 2 * i) := by
  constructor
  · intro row
    unfold gE
    rw [if_neg (by omega), if_neg (by omega), if_pos (by omega), if_neg (by omega), if_neg (by omega), if_pos (by omega)]
  · intro row
    unfold gE
    rw [if_neg (by omega), if_neg (by omega), if_pos (by omega), if_neg (by omega), if_neg (by omega), if_neg (by omega)]
theorem tp_t (cy ad : Nat → Nat) {t : Nat} (ht : t < 6) : isTp cy ad (29 + 18 * t) := by
  refine ⟨?_, ?_, fun i hi => sg_s cy ad ht hi⟩
  · intro row
    unfold gE
    rw [if_neg (by omega), if_neg (by omega), if_pos (by omega), if_pos (by omega)]
  · intro row
    unfold gE
    rw [if_neg (by omega), if_neg (by omega), if_pos (by omega), if_neg (by omega), if_pos (by omega)]
def wd (cy ad : Nat → Nat) (n : Nat) (M : Mm) : va_W := (List.range n).map (fun j => (ad j, gE cy ad j (M j)))
theorem wd_len (cy ad : Nat → Nat) (n : Nat) (M : Mm) : (wd cy ad n M).length = n := by simp [wd]
theorem wd_at {cy ad : Nat → Nat} {n k : Nat} {M : Mm} {ex : va_W} {e : va_E} (hk : k < n) (h : gE cy ad k (M k) = e) : (wd cy ad n M ++ ex)[k]? = some (ad k, e) := by
  rw [List.getElem?_append_left (by rw [wd_len]; exact hk)]
  simp [wd, hk, h]
theorem wd_ex {cy ad : Nat → Nat} {n : Nat} {M : Mm} {ex : va_W} {q : Nat × va_E} : (wd cy ad n M ++ (q :: ex))[n]? = some q := by
  rw [List.getElem?_append_right (by rw [wd_len]; exact Nat.le_refl _), wd_len]
  simp
theorem wd_up {cy ad : Nat → Nat} {n k : Nat} {M : Mm} {ex : va_W} {e : va_E} {f : Nat → Int32} (hk : k < n) (h : gE cy ad k f = e) : (wd cy ad n M ++ ex).set k (ad k, e) = wd cy ad n (va_up M k f) ++ ex := by
  rw [List.set_append_left _ _ (by rw [wd_len]; exact hk)]
  congr 1
  apply List.ext_getElem
  · simp [wd]
  · intro i h1 h2
    have hi : i < n := by simpa [wd] using h2
    rw [List.getElem_set]
    by_cases hki : k = i
    · subst hki
      simp [wd, va_up, h]
    · rw [if_neg hki]
      simp [wd, va_up, Ne.symm hki]
theorem wd_set {cy ad : Nat → Nat} {n k j : Nat} {M : Mm} {ex : va_W} {e : va_E} {v : Int32} (hk : k < n) (h : gE cy ad k (st M k j v k) = e) : (wd cy ad n M ++ ex).set k (ad k, e) = wd cy ad n (st M k j v) ++ ex := by
  rw [st_row] at h
  exact wd_up hk h
theorem wd_D {A : Nat → Prop} {cy ad : Nat → Nat} {n : Nat} {M : Mm} {ex : va_W} (h : va_D A (wd cy ad n M ++ ex)) (M' : Mm) : va_D A (wd cy ad n M' ++ ex) := by
  have key : ∀ (i : Nat) (p : Nat × va_E), (wd cy ad n M' ++ ex)[i]? = some p → ∃ q : Nat × va_E, (wd cy ad n M ++ ex)[i]? = some q ∧ q.1 = p.1 := by
    intro i p hp
    by_cases hi : i < n
    · rw [wd_at hi rfl] at hp
      cases hp
      exact ⟨_, wd_at hi rfl, rfl⟩
    · have h1 : n ≤ i := Nat.le_of_not_lt hi
      rw [List.getElem?_append_right (by rw [wd_len]; exact h1), wd_len] at hp
      exact ⟨p, by rw [List.getElem?_append_right (by rw [wd_len]; exact h1), wd_len]; exact hp, rfl⟩
  refine ⟨fun i j p q hp hq e => ?_, fun k q hq => ?_⟩
  · obtain ⟨p', hp', ep⟩ := key i p hp
    obtain ⟨q', hq', eq⟩ := key j q hq
    exact h.1 i j p' q' hp' hq' (by rw [ep, eq]; exact e)
  · obtain ⟨q', hq', eq⟩ := key k q hq
    rw [← eq]
    exact h.2 k q' hq'
theorem vn_ins {i : Int32} {j N : Nat} (h : i = nI j) (hj : j < N) (hN : N < 2 ^ 31) : vp_in i N := by subst h; exact vp_in_nI hj hN
-- the links between nest mates, and what every method is told of the tables
def nwL : List Cond := [.fieldLinkNest RX0 45 "RingPetition$KeyRow" "keys" "[I" "RingPetition", .fieldLinkNest RX5 124 "RingPetition$KeyRow" "keys" "[I" "RingPetition", .fieldLinkNest RX0 30 "RingPetition$KeyRow" "size" "I" "RingPetition", .fieldLinkNest RX5 75 "RingPetition$KeyRow" "size" "I" "RingPetition", .methodLinkNest RX5 37 yX3_init "RingPetition", .fieldLinkNest RX0 37 "RingPetition$Signature" "numbers" "[I" "RingPetition", .fieldLinkNest RX4 37 "RingPetition$Signature" "numbers" "[I" "RingPetition", .fieldLinkNest RX5 141 "RingPetition$Signature" "numbers" "[I" "RingPetition", .fieldLinkNest RX0 25 "RingPetition$Signature" "size" "I" "RingPetition", .fieldLinkNest RX5 230 "RingPetition$Signature" "size" "I" "RingPetition", .fieldLinkNest RX4 45 "RingPetition$Signature" "ringNumber" "I" "RingPetition", .fieldLinkNest RX5 224 "RingPetition$Signature" "ringNumber" "I" "RingPetition", .fieldLinkNest RX4 48 "RingPetition$Signature" "motion" "I" "RingPetition", .fieldLinkNest RX5 227 "RingPetition$Signature" "motion" "I" "RingPetition", .methodLinkNest RX4 31 yX3_init "RingPetition", .fieldLinkNest RX5 131 "RingPetition$Topic" "value" "I" "RingPetition", .fieldLinkNest RX5 115 "RingPetition$Topic" "topicBase" "I" "RingPetition", .fieldLinkNest RX5 152 "RingPetition$Topic" "closed" "Z" "RingPetition", .fieldLinkNest RX5 186 "RingPetition$Topic" "stored" "[LRingPetition$Signature;" "RingPetition", .fieldLinkNest RX5 164 "RingPetition$Topic" "storedCount" "I" "RingPetition"]
def NW (U : State) : Prop := ∀ w ∈ nwL, va_Nw w U
theorem NW.warm {s U : State} (hW : s.WarmedH U.vm) (h : NW s) : NW U := by
  intro w hw
  have hw2 := hw
  simp only [nwL, List.mem_cons, List.not_mem_nil, or_false] at hw2
  rcases hw2 with rfl | rfl | rfl | rfl | rfl | rfl | rfl | rfl | rfl | rfl | rfl | rfl | rfl | rfl | rfl | rfl | rfl | rfl | rfl | rfl
  · exact va_Nw.warmF hW (h _ (by simp [nwL]))
  · exact va_Nw.warmF hW (h _ (by simp [nwL]))
  · exact va_Nw.warmF hW (h _ (by simp [nwL]))
  · exact va_Nw.warmF hW (h _ (by simp [nwL]))
  · exact va_Nw.warmM hW (h _ (by simp [nwL]))
  · exact va_Nw.warmF hW (h _ (by simp [nwL]))
  · exact va_Nw.warmF hW (h _ (by simp [nwL]))
  · exact va_Nw.warmF hW (h _ (by simp [nwL]))
  · exact va_Nw.warmF hW (h _ (by simp [nwL]))
  · exact va_Nw.warmF hW (h _ (by simp [nwL]))
  · exact va_Nw.warmF hW (h _ (by simp [nwL]))
  · exact va_Nw.warmF hW (h _ (by simp [nwL]))
  · exact va_Nw.warmF hW (h _ (by simp [nwL]))
  · exact va_Nw.warmF hW (h _ (by simp [nwL]))
  · exact va_Nw.warmM hW (h _ (by simp [nwL]))
  · exact va_Nw.warmF hW (h _ (by simp [nwL]))
  · exact va_Nw.warmF hW (h _ (by simp [nwL]))
  · exact va_Nw.warmF hW (h _ (by simp [nwL]))
  · exact va_Nw.warmF hW (h _ (by simp [nwL]))
  · exact va_Nw.warmF hW (h _ (by simp [nwL]))
theorem NW.same {s U : State} (hv : s.vm = U.vm) (h : NW s) : NW U := NW.warm (by rw [← hv]; exact State.WarmedH.refl s) h
def EV (D : va_G) (cy : Nat → Nat) (U : State) : Prop := va_K D vwCl (tyL cy) U ∧ NW U
theorem EV.warm {D : va_G} {cy : Nat → Nat} {s U : State} (hW : s.WarmedH U.vm) (h : EV D cy s) : EV D cy U := ⟨va_K.moved hW.alike h.1, NW.warm hW h.2⟩
theorem EV.same {D : va_G} {cy : Nat → Nat} {s U : State} (hv : s.vm = U.vm) (h : EV D cy s) : EV D cy U := EV.warm (by rw [← hv]; exact State.WarmedH.refl s) h
/-- what a method that only reads is given; what one that writes is given -/
def RO (D : va_G) (cy : Nat → Nat) (ws : va_W) (U : State) : Prop := va_P D vwCl ws U.heap ∧ EV D cy U
def RW (D : va_G) (cy : Nat → Nat) (ws : va_W) (A : Nat → Prop) (U : State) : Prop := va_P D vwCl ws U.heap ∧ EV D cy U ∧ ∀ q, U.heap.size ≤ q → A q
section PRE
variable {s : State} {H : Heap} {D : va_G} {cy : Nat → Nat} {ws : va_W} {A : Nat → Prop} {H0 : Heap} {locs : List Loc} {As : List Value} {b q0 ci : Nat} {fs : List Value} {q : vw_C}
theorem pu_ps : PreS s H (va_Pc As (fun _ => True)) As := ⟨fun _ _ _ _ h => h, fun _ _ _ => ⟨rfl, trivial⟩⟩
theorem pu_pv (hE : EV D cy s) (hP : va_P D vwCl ws H) (hc : vwCl[ci]? = some q) (he : ws[q0]? = some (b, .inr (ci, fs))) : PreV s H q.1 b (va_Pc (.ref b :: As) (fun _ => True)) As := ⟨fun _ _ _ _ h => h, va_recv hE.1 hP hc he, fun _ _ _ => ⟨rfl, trivial⟩⟩
theorem ro_fb {av : List Value} : FrameBlind (va_Pc av (RO D cy ws)) := fun a U g mk h => ⟨h.1, h.2.1, EV.same (s := U) (U := U.calling g mk a) rfl h.2.2⟩
theorem ro_ps (hE : EV D cy s) (hP : va_P D vwCl ws H) : PreS s H (va_Pc As (RO D cy ws)) As := ⟨ro_fb, fun U hU hW => ⟨rfl, by rw [hU]; exact hP, hE.warm hW⟩⟩
theorem ro_pv (hE : EV D cy s) (hP : va_P D vwCl ws H) (hc : vwCl[ci]? = some q) (he : ws[q0]? = some (b, .inr (ci, fs))) : PreV s H q.1 b (va_Pc (.ref b :: As) (RO D cy ws)) As := ⟨ro_fb, va_recv hE.1 hP hc he, fun U hU hW => ⟨rfl, by rw [hU]; exact hP, hE.warm hW⟩⟩
theorem rw_fb {av : List Value} : FrameBlind (va_Pc av (RW D cy ws A)) := fun a U g mk h => ⟨h.1, h.2.1, EV.same (s := U) (U := U.calling g mk a) rfl h.2.2.1, h.2.2.2⟩
theorem rw_ps (hE : EV D cy s) (hP : va_P D vwCl ws H) (hS : va_S A H0 H locs) (hA : ∀ q, H0.size ≤ q → A q) : PreS s H (va_Pc As (RW D cy ws A)) As := ⟨rw_fb, fun U hU hW => ⟨rfl, by rw [hU]; exact hP, hE.warm hW, fun q h => hA q (Nat.le_trans hS.1 (by rw [hU] at h; exact h))⟩⟩
theorem rw_pv (hE : EV D cy s) (hP : va_P D vwCl ws H) (hS : va_S A H0 H locs) (hA : ∀ q, H0.size ≤ q → A q) (hc : vwCl[ci]? = some q) (he : ws[q0]? = some (b, .inr (ci, fs))) : PreV s H q.1 b (va_Pc (.ref b :: As) (RW D cy ws A)) As := ⟨rw_fb, va_recv hE.1 hP hc he, fun U hU hW => ⟨rfl, by rw [hU]; exact hP, hE.warm hW, fun q h => hA q (Nat.le_trans hS.1 (by rw [hU] at h; exact h))⟩⟩
theorem rw_pi (hE : EV D cy s) (hP : va_P D vwCl ws H) (hS : va_S A H0 H locs) (hA : ∀ q, H0.size ≤ q → A q) : PreS s H (va_Pc (.ref b :: As) (RW D cy ws A)) (.ref b :: As) := rw_ps hE hP hS hA
end PRE
section WRR
variable {p : Program} {l : Launch} {e : Env} {R : Room} {s : State} {m : MethodId} {args : Array Value} {below : List Frame} {meth : Method} {c : Code} {H : Heap} {locs : List Loc} {cells slots : Nat} {Q : State → Prop}
variable {cc : ByteArray} {pc : Nat} {ls : Array Slot} {rest : List Value} {D : va_G} {A : Nat → Prop} {H0 : Heap} {cy ad : Nat → Nat} {n : Nat} {M : Mm} {ex : va_W}
theorem wr_put (hexec : p.tables.exec = Jvm.exec) (hb : c.code = cc) {own ref C : String} {T : u_T} {N ci index : Nat} {Ts : List Cond} (hts : ∀ w ∈ Ts, w.before args s = true) (hin : ∀ w ∈ u_ws C T N, w ∈ Ts) (ty0 : Nat → FieldType) (hty : ∀ k, k < N → parseFieldDescriptor (T k).2.2.1 = some (ty0 k)) (hnm : ∀ a, a < N → ∀ b, b < N → a ≠ b → (T a).2.1 ≠ (T b).2.1) (hown : s.vm.findClass own = some m.cls) (hK : va_K D vwCl (tyL cy) s) (hP : va_P D vwCl (wd cy ad n M ++ ex) H) (hD : ∀ M, va_D A (wd cy ad n M ++ ex)) (hS : va_S A H0 H locs) (k : Nat) (hk : k < n) {fs : List Value} (hf : gE cy ad k (M k) = .inr (ci, fs)) (hc : vwCl[ci]? = some (C, T, N)) (j : Nat) (hj : j < N) (hlink : (Cond.fieldLink own index ref (T j).2.1 (T j).2.2.1).before args s = true) (hsame : ∀ x, s.fieldFound? (T j).1 (T j).2.1 (T j).2.2.1 = some x → s.fieldFound? ref (T j).2.1 (T j).2.2.1 = some x) (hfin : (T j).2.2.2 = false) {ty : FieldType} {v : Int32} (hd : parseFieldDescriptor (T j).2.2.1 = some ty) (hn : narrow ty (.int v) = .int v) (hfit : fits ty (.int v) = true) (hl : j < fs.length) (hf2 : gE cy ad k (st M k j v k) = .inr (ci, fs.set j (.int v)))
    (hdg : decode cc pc = .ok (.putfield index, 3)) (kk : ∀ (H1 : Heap) (locs1 : List Loc), va_P D vwCl (wd cy ad n (st M k j v) ++ ex) H1 → va_S A H0 H1 locs1 → W p l e R s m args below meth c H1 locs1 cells slots Q (F0 m (pc + 3) ls rest)) : W p l e R s m args below meth c H locs cells slots Q (F0 m pc ls (.int v :: .ref (ad k) :: rest)) := by
  refine va_put (D := D) (ci := ci) (v := .int v) (ty := ty) (C := C) (T := T) (N := N) hexec hb hts hin ty0 hty hnm hown hK hP (hD M) hS k (wd_at hk hf) hc j hj hlink hsame hfin hd hn hfit hl hdg (fun H1 locs1 hP1 _ hS1 => ?_)
  rw [wd_set hk hf2] at hP1
  exact kk H1 locs1 hP1 hS1
theorem wr_putN (hexec : p.tables.exec = Jvm.exec) (hb : c.code = cc) {own ref C host : String} {T : u_T} {N ci index : Nat} {Ts : List Cond} (hts : ∀ w ∈ Ts, w.before args s = true) (hin : ∀ w ∈ u_ws C T N, w ∈ Ts) (ty0 : Nat → FieldType) (hty : ∀ k, k < N → parseFieldDescriptor (T k).2.2.1 = some (ty0 k)) (hnm : ∀ a, a < N → ∀ b, b < N → a ≠ b → (T a).2.1 ≠ (T b).2.1) (hown : s.vm.findClass own = some m.cls) (hK : va_K D vwCl (tyL cy) s) (hP : va_P D vwCl (wd cy ad n M ++ ex) H) (hD : ∀ M, va_D A (wd cy ad n M ++ ex)) (hS : va_S A H0 H locs) (k : Nat) (hk : k < n) {fs : List Value} (hf : gE cy ad k (M k) = .inr (ci, fs)) (hc : vwCl[ci]? = some (C, T, N)) (j : Nat) (hj : j < N) (hlink : (Cond.fieldLinkNest own index ref (T j).2.1 (T j).2.2.1 host).before args s = true) (hsame : ∀ x, s.fieldFound? (T j).1 (T j).2.1 (T j).2.2.1 = some x → s.fieldFound? ref (T j).2.1 (T j).2.2.1 = some x) (hfin : (T j).2.2.2 = false) {ty : FieldType} {v : Int32} (hd : parseFieldDescriptor (T j).2.2.1 = some ty) (hn : narrow ty (.int v) = .int v) (hfit : fits ty (.int v) = true) (hl : j < fs.length) (hf2 : gE cy ad k (st M k j v k) = .inr (ci, fs.set j (.int v)))
    (hdg : decode cc pc = .ok (.putfield index, 3)) (kk : ∀ (H1 : Heap) (locs1 : List Loc), va_P D vwCl (wd cy ad n (st M k j v) ++ ex) H1 → va_S A H0 H1 locs1 → W p l e R s m args below meth c H1 locs1 cells slots Q (F0 m (pc + 3) ls rest)) : W p l e R s m args below meth c H locs cells slots Q (F0 m pc ls (.int v :: .ref (ad k) :: rest)) := by
  refine va_putN (D := D) (ci := ci) (v := .int v) (ty := ty) (C := C) (T := T) (N := N) hexec hb hts hin ty0 hty hnm hown hK hP (hD M) hS k (wd_at hk hf) hc j hj hlink hsame hfin hd hn hfit hl hdg (fun H1 locs1 hP1 _ hS1 => ?_)
  rw [wd_set hk hf2] at hP1
  exact kk H1 locs1 hP1 hS1
theorem wr_ald (hexec : p.tables.exec = Jvm.exec) (hb : c.code = cc) (hK : va_K D vwCl (tyL cy) s) (hP : va_P D vwCl (wd cy ad n M ++ ex) H) (k : Nat) (hk : k < n) {N : Nat} (hf : gE cy ad k (M k) = eInt (cy 0) N (M k)) (j : Nat) {i : Int32} (hi : i = nI j) (hj : j < N) (hN : N < 2 ^ 31) (hdg : decode cc pc = .ok (.iaload, 1))
    (kk : W p l e R s m args below meth c H locs cells slots Q (F0 m (pc + 1) ls (.int (M k j) :: rest))) : W p l e R s m args below meth c H locs cells slots Q (F0 m pc ls (.int i :: .ref (ad k) :: rest)) := by
  refine va_iald (D := D) (cl := vwCl) hexec hb hK hP k 0 (wd_at hk hf) rfl (vn_ins hi hj hN) hdg ?_
  rw [hi, nI_clamp (Nat.lt_trans hj hN)]
  exact kk
theorem wr_zald (hexec : p.tables.exec = Jvm.exec) (hb : c.code = cc) (hK : va_K D vwCl (tyL cy) s) (hP : va_P D vwCl (wd cy ad n M ++ ex) H) (k : Nat) (hk : k < n) {N : Nat} (hf : gE cy ad k (M k) = eInt (cy 1) N (M k)) (j : Nat) {i : Int32} (hi : i = nI j) (hj : j < N) (hN : N < 2 ^ 31) (hdg : decode cc pc = .ok (.baload, 1))
    (kk : W p l e R s m args below meth c H locs cells slots Q (F0 m (pc + 1) ls (.int (M k j) :: rest))) : W p l e R s m args below meth c H locs cells slots Q (F0 m pc ls (.int i :: .ref (ad k) :: rest)) := by
  refine va_zald (D := D) (cl := vwCl) hexec hb hK hP k 1 (wd_at hk hf) rfl (vn_ins hi hj hN) hdg ?_
  rw [hi, nI_clamp (Nat.lt_trans hj hN)]
  exact kk
theorem wr_ast (hexec : p.tables.exec = Jvm.exec) (hb : c.code = cc) (hK : va_K D vwCl (tyL cy) s) (hP : va_P D vwCl (wd cy ad n M ++ ex) H) (hD : ∀ M, va_D A (wd cy ad n M ++ ex)) (hS : va_S A H0 H locs) (k : Nat) (hk : k < n) {N : Nat} (hf : ∀ row, gE cy ad k row = eInt (cy 0) N row) (j : Nat) {i x : Int32} (hi : i = nI j) (hj : j < N) (hN : N < 2 ^ 31) (hdg : decode cc pc = .ok (.iastore, 1))
    (kk : ∀ (H1 : Heap) (locs1 : List Loc), va_P D vwCl (wd cy ad n (st M k j x) ++ ex) H1 → va_S A H0 H1 locs1 → W p l e R s m args below meth c H1 locs1 cells slots Q (F0 m (pc + 1) ls rest)) : W p l e R s m args below meth c H locs cells slots Q (F0 m pc ls (.int x :: .int i :: .ref (ad k) :: rest)) := by
  refine va_iast (D := D) (cl := vwCl) hexec hb hK hP (hD M) hS k 0 (wd_at hk (hf _)) rfl (vn_ins hi hj hN) hdg (fun H1 locs1 hP1 _ hS1 => ?_)
  rw [hi, nI_clamp (Nat.lt_trans hj hN), wd_up hk (hf _)] at hP1
  exact kk H1 locs1 hP1 hS1
theorem wr_zast (hexec : p.tables.exec = Jvm.exec) (hb : c.code = cc) (hK : va_K D vwCl (tyL cy) s) (hP : va_P D vwCl (wd cy ad n M ++ ex) H) (hD : ∀ M, va_D A (wd cy ad n M ++ ex)) (hS : va_S A H0 H locs) (k : Nat) (hk : k < n) {N : Nat} (hf : ∀ row, gE cy ad k row = eInt (cy 1) N row) (j : Nat) {i x : Int32} (hx : vp_nar .boolean x = x) (hi : i = nI j) (hj : j < N) (hN : N < 2 ^ 31) (hdg : decode cc pc = .ok (.bastore, 1))
    (kk : ∀ (H1 : Heap) (locs1 : List Loc), va_P D vwCl (wd cy ad n (st M k j x) ++ ex) H1 → va_S A H0 H1 locs1 → W p l e R s m args below meth c H1 locs1 cells slots Q (F0 m (pc + 1) ls rest)) : W p l e R s m args below meth c H locs cells slots Q (F0 m pc ls (.int x :: .int i :: .ref (ad k) :: rest)) := by
  refine va_zast (D := D) (cl := vwCl) hexec hb hK hP (hD M) hS k 1 (wd_at hk (hf _)) rfl (vn_ins hi hj hN) hdg (fun H1 locs1 hP1 _ hS1 => ?_)
  rw [hx, hi, nI_clamp (Nat.lt_trans hj hN), wd_up hk (hf _)] at hP1
  exact kk H1 locs1 hP1 hS1
theorem wr_aldq (hexec : p.tables.exec = Jvm.exec) (hb : c.code = cc) (hK : va_K D vwCl (tyL cy) s) (hP : va_P D vwCl (wd cy ad n M ++ ex) H) (k : Nat) (hk : k < n) (t0 : Nat) {cA : Nat} {C : String} {N : Nat} {f : Nat → Nat} (hf : gE cy ad k (M k) = eRef cA N (fun r => some (ad (f r)))) (ht : (tyL cy)[t0]? = some (cA, .object C)) (j : Nat) {i : Int32} (hi : i = nI j) (hj : j < N) (hN : N < 2 ^ 31) (hdg : decode cc pc = .ok (.aaload, 1))
    (kk : W p l e R s m args below meth c H locs cells slots Q (F0 m (pc + 1) ls (.ref (ad (f j)) :: rest))) : W p l e R s m args below meth c H locs cells slots Q (F0 m pc ls (.int i :: .ref (ad k) :: rest)) := by
  refine va_aldq (D := D) (cl := vwCl) hexec hb hK hP k t0 (wd_at hk hf) ht (vn_ins hi hj hN) hdg ?_
  rw [hi, nI_clamp (Nat.lt_trans hj hN)]
  exact kk
end WRR
