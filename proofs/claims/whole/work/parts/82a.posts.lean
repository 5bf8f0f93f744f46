/-! the contracts' posts by name: the class's answer (PC), its exceptions (XC), the law's wrapper (WR), the second class's (PM) -/
def PC_member (mc : Nat) (x : Int32) (M : Mm) (r : Int32) (u : Mm) : Prop := r = nI mc ∧ mc < 12 ∧ eltN (vN x) = true ∧ (∀ j, j < mc → M 2 j ≠ x) ∧ u = st (st M 2 mc x) 1 1 (nI (mc + 1))
def XC_member (mc : Nat) (x : Int32) (M : Mm) (E : String) (u : Mm) : Prop := (((E = "java/lang/IllegalArgumentException" ∧ ¬ (eltN (vN x) = true ∧ ∀ j, j < mc → M 2 j ≠ x)) ∨ (E = "java/lang/IllegalStateException" ∧ eltN (vN x) = true ∧ (∀ j, j < mc → M 2 j ≠ x) ∧ mc = 12)) ∧ u = M)
def WR_member (mc : Nat) (x : Int32) (M : Mm) (r : Int32) (u : Mm) : Prop := (r = nI 0 ∧ ∃ w u0, PC_member mc x M w u0 ∧ u = st u0 154 0 w) ∨ (r = nI 1 ∧ XC_member mc x M "java/lang/IllegalArgumentException" u) ∨ (r = nI 2 ∧ XC_member mc x M "java/lang/IllegalStateException" u)
def PM_member (x : Int32) (mc : Nat) (M : Mm) (r : Int32) (u : Mm) : Prop := (eltN (vN x) = true ∧ (∀ j, j < mc → M 140 j ≠ x) ∧ mc < 12 ∧ r = nI mc ∧ u = st (st (st M 137 0 (nI 0)) 140 mc x) 137 3 (nI (mc + 1))) ∨ (¬ (eltN (vN x) = true ∧ ∀ j, j < mc → M 140 j ≠ x) ∧ u = (st M 137 0 (nI 1))) ∨ (eltN (vN x) = true ∧ (∀ j, j < mc → M 140 j ≠ x) ∧ mc = 12 ∧ u = (st M 137 0 (nI 2)))
def PC_key (x : Int32) (M : Mm) (r : Int32) (u : Mm) : Prop := r = nI (4 ^ vN x % 2027) ∧ 0 < x.toInt ∧ x.toInt < 1013 ∧ u = M
def XC_key (x : Int32) (M : Mm) (E : String) (u : Mm) : Prop := (E = "java/lang/IllegalArgumentException" ∧ ¬ (0 < x.toInt ∧ x.toInt < 1013) ∧ u = M)
def WR_key (x : Int32) (M : Mm) (r : Int32) (u : Mm) : Prop := (r = nI 0 ∧ ∃ w u0, PC_key x M w u0 ∧ u = st u0 154 0 w) ∨ (r = nI 1 ∧ XC_key x M "java/lang/IllegalArgumentException" u)
def PM_key (x : Int32) (M : Mm) (r : Int32) (u : Mm) : Prop := (0 < x.toInt ∧ x.toInt < 1013 ∧ r = nI (4 ^ vN x % 2027) ∧ u = (st M 137 0 (nI 0))) ∨ (¬ (0 < x.toInt ∧ x.toInt < 1013) ∧ u = (st M 137 0 (nI 1)))
def PC_ring (mc : Nat) (rc : Nat) (x : Int32) (M : Mm) (r : Int32) (u : Mm) : Prop := r = nI rc ∧ rc < 8 ∧ (2 ≤ (bcI x).toInt ∧ (bcI x).toInt ≤ 6 ∧ uS x (nI mc) = 0) ∧ ∃ N, flP (13 + 2 * rc) x mc M N ∧ u = st N 0 2 (nI (rc + 1))
def XC_ring (mc : Nat) (rc : Nat) (x : Int32) (M : Mm) (E : String) (u : Mm) : Prop := (((E = "java/lang/IllegalArgumentException" ∧ ¬ (2 ≤ (bcI x).toInt ∧ (bcI x).toInt ≤ 6 ∧ uS x (nI mc) = 0)) ∨ (E = "java/lang/IllegalStateException" ∧ (2 ≤ (bcI x).toInt ∧ (bcI x).toInt ≤ 6 ∧ uS x (nI mc) = 0) ∧ rc = 8)) ∧ u = M)
def WR_ring (mc : Nat) (rc : Nat) (x : Int32) (M : Mm) (r : Int32) (u : Mm) : Prop := (r = nI 0 ∧ ∃ w u0, PC_ring mc rc x M w u0 ∧ u = st u0 154 0 w) ∨ (r = nI 1 ∧ XC_ring mc rc x M "java/lang/IllegalArgumentException" u) ∨ (r = nI 2 ∧ XC_ring mc rc x M "java/lang/IllegalStateException" u)
def PM_ring (x : Int32) (mc : Nat) (rc : Nat) (M : Mm) (r : Int32) (u : Mm) : Prop := ((2 ≤ (bcI x).toInt ∧ (bcI x).toInt ≤ 6 ∧ uS x (nI mc) = 0) ∧ rc < 8 ∧ r = nI rc ∧ ∃ N, rgQ rc x mc (st M 137 0 (nI 0)) N ∧ u = st N 137 5 (nI (rc + 1))) ∨ (¬ (2 ≤ (bcI x).toInt ∧ (bcI x).toInt ≤ 6 ∧ uS x (nI mc) = 0) ∧ u = (st M 137 0 (nI 1))) ∨ ((2 ≤ (bcI x).toInt ∧ (bcI x).toInt ≤ 6 ∧ uS x (nI mc) = 0) ∧ rc = 8 ∧ u = (st M 137 0 (nI 2)))
def PC_topic (tc : Nat) (v : Int32) (M : Mm) (r : Int32) (u : Mm) : Prop := r = nI tc ∧ tc < 6 ∧ u = st (st (st M (29 + 18 * tc) 0 v) (29 + 18 * tc) 1 (nI (tB v))) 0 4 (nI (tc + 1))
def XC_topic (tc : Nat) (v : Int32) (M : Mm) (E : String) (u : Mm) : Prop := (E = "java/lang/IllegalStateException" ∧ tc = 6 ∧ u = M)
def WR_topic (tc : Nat) (v : Int32) (M : Mm) (r : Int32) (u : Mm) : Prop := (r = nI 0 ∧ ∃ w u0, PC_topic tc v M w u0 ∧ u = st u0 154 0 w) ∨ (r = nI 1 ∧ XC_topic tc v M "java/lang/IllegalStateException" u)
def PM_topic (tc : Nat) (x : Int32) (M : Mm) (r : Int32) (u : Mm) : Prop := (tc < 6 ∧ r = nI tc ∧ mxP (st (st (st (st M 137 0 (nI 0)) 143 tc x) 144 tc (nI (tB x))) 137 8 (nI (tc + 1))) u) ∨ (tc = 6 ∧ u = (st M 137 0 (nI 1)))
def PC_base (tc : Nat) (tp : Int32) (M : Mm) (r : Int32) (u : Mm) : Prop := 0 ≤ tp.toInt ∧ tp.toInt < (tc : Int) ∧ r = M (29 + 18 * vN tp) 1 ∧ u = M
def XC_base (tc : Nat) (tp : Int32) (M : Mm) (E : String) (u : Mm) : Prop := (E = "java/lang/IllegalArgumentException" ∧ (tp.toInt < 0 ∨ (tc : Int) ≤ tp.toInt) ∧ u = M)
def WR_base (tc : Nat) (tp : Int32) (M : Mm) (r : Int32) (u : Mm) : Prop := (r = nI 0 ∧ ∃ w u0, PC_base tc tp M w u0 ∧ u = st u0 154 0 w) ∨ (r = nI 1 ∧ XC_base tc tp M "java/lang/IllegalArgumentException" u)
def PM_base (tc : Nat) (x : Int32) (M : Mm) (r : Int32) (u : Mm) : Prop := (0 ≤ x.toInt ∧ x.toInt < (tc : Int) ∧ r = M 144 (vN x) ∧ u = (st M 137 0 (nI 0))) ∨ (¬ (0 ≤ x.toInt ∧ x.toInt < (tc : Int)) ∧ u = (st M 137 0 (nI 1)))
def PC_sign (rc : Nat) (tc : Nat) (rs : Nat → Nat) (rg : Int32) (tp : Int32) (pl : Int32) (sec : Int32) (mo : Int32) (M : Mm) (r : Int32) (u : Mm) : Prop := sgOK rc tc rs M rg tp pl sec ∧ r = u (5 + 1) 1 ∧ pvE (rs (vN rg)) (M (13 + 2 * vN rg + 1)) (M (29 + 18 * vN tp) 0) mo (tB (M (29 + 18 * vN tp) 0)) (vN sec) (vN pl) 5 M u
def XC_sign (rc : Nat) (tc : Nat) (rs : Nat → Nat) (rg : Int32) (tp : Int32) (pl : Int32) (sec : Int32) (mo : Int32) (M : Mm) (E : String) (u : Mm) : Prop := (E = "java/lang/IllegalArgumentException" ∧ ¬ sgOK rc tc rs M rg tp pl sec ∧ u = M)
def WR_sign (rc : Nat) (tc : Nat) (rs : Nat → Nat) (rg : Int32) (tp : Int32) (pl : Int32) (sec : Int32) (mo : Int32) (M : Mm) (r : Int32) (u : Mm) : Prop := (r = nI 0 ∧ ∃ w u0, PC_sign rc tc rs rg tp pl sec mo M w u0 ∧ u = st u0 154 0 w) ∨ (r = nI 1 ∧ XC_sign rc tc rs rg tp pl sec mo M "java/lang/IllegalArgumentException" u)
def PM_sign (rg : Int32) (tp : Int32) (pl : Int32) (sec : Int32) (mo : Int32) (rc : Nat) (tc : Nat) (rs : Nat → Nat) (M : Mm) (r : Int32) (u : Mm) : Prop := (msOK rc tc rs M rg tp pl sec ∧ r = nI ((tB (M 143 (vN tp))) ^ (vN sec) % 2027) ∧ mgP M u (rs (vN rg)) (fun j => M 142 (6 * vN rg + j)) (M 143 (vN tp)) mo (tB (M 143 (vN tp))) (vN sec) (vN pl)) ∨ (¬ msOK rc tc rs M rg tp pl sec ∧ u = (st M 137 0 (nI 1)))
def PC_draft (d : Nat) (x : Int32) (M : Mm) (r : Int32) (u : Mm) : Prop := 0 ≤ x.toInt ∧ x.toInt < (d : Int) ∧ r = M 6 (vN x) ∧ u = M
def XC_draft (d : Nat) (x : Int32) (M : Mm) (E : String) (u : Mm) : Prop := (E = "java/lang/IndexOutOfBoundsException" ∧ ¬ (0 ≤ x.toInt ∧ x.toInt < (d : Int)) ∧ u = M)
def WR_draft (d : Nat) (x : Int32) (M : Mm) (r : Int32) (u : Mm) : Prop := (r = nI 0 ∧ ∃ w u0, PC_draft d x M w u0 ∧ u = st u0 154 0 w) ∨ (r = nI 1 ∧ XC_draft d x M "java/lang/IndexOutOfBoundsException" u)
def PM_draft (d : Nat) (x : Int32) (M : Mm) (r : Int32) (u : Mm) : Prop := (0 ≤ x.toInt ∧ x.toInt < (d : Int) ∧ r = M 150 (vN x) ∧ u = (st M 137 0 (nI 0))) ∨ (¬ (0 ≤ x.toInt ∧ x.toInt < (d : Int)) ∧ u = (st M 137 0 (nI 1)))
def PC_edit (d : Nat) (x : Int32) (v : Int32) (M : Mm) (u : Mm) : Prop := 0 ≤ x.toInt ∧ x.toInt < (d : Int) ∧ u = st M 6 (vN x) v
def XC_edit (d : Nat) (x : Int32) (v : Int32) (M : Mm) (E : String) (u : Mm) : Prop := (E = "java/lang/IndexOutOfBoundsException" ∧ ¬ (0 ≤ x.toInt ∧ x.toInt < (d : Int)) ∧ u = M)
def WR_edit (d : Nat) (x : Int32) (v : Int32) (M : Mm) (r : Int32) (u : Mm) : Prop := (r = nI 0 ∧ PC_edit d x v M u) ∨ (r = nI 1 ∧ XC_edit d x v M "java/lang/IndexOutOfBoundsException" u)
def PM_edit (d : Nat) (x : Int32) (v : Int32) (M : Mm) (u : Mm) : Prop := (0 ≤ x.toInt ∧ x.toInt < (d : Int) ∧ u = st (st M 137 0 (nI 0)) 150 (vN x) v) ∨ (¬ (0 ≤ x.toInt ∧ x.toInt < (d : Int)) ∧ u = (st M 137 0 (nI 1)))
def PC_submit (rc : Nat) (tc : Nat) (rs : Nat → Nat) (rg : Int32) (tp : Int32) (mo : Int32) (sc : Nat → Nat) (M : Mm) (r : Int32) (u : Mm) : Prop := (0 ≤ rg.toInt ∧ rg.toInt < (rc : Int)) ∧ (0 ≤ tp.toInt ∧ tp.toInt < (tc : Int)) ∧ M (29 + 18 * vN tp) 2 = 0 ∧ (M 5 1 = nI (2 + rs (vN rg)) ∧ gdP (rs (vN rg)) (M (13 + 2 * vN rg + 1)) (M (29 + 18 * vN tp) 0) mo (tB (M (29 + 18 * vN tp) 0)) (M (5 + 1))) ∧ ¬ (∃ j, j < sc (vN tp) ∧ j < sc (vN tp) ∧ M (29 + 18 * vN tp + 2 + 2 * j + 1) 1 = M (5 + 1) 1) ∧ sc (vN tp) < 8 ∧ r = nI (sc (vN tp) + 1) ∧ u = st (st (st (va_up (st M (29 + 18 * vN tp + 2 + 2 * sc (vN tp)) 1 (nI (2 + rs (vN rg)))) (29 + 18 * vN tp + 2 + 2 * sc (vN tp) + 1) (va_cpy (st M (29 + 18 * vN tp + 2 + 2 * sc (vN tp)) 1 (nI (2 + rs (vN rg))) (5 + 1)) (st M (29 + 18 * vN tp + 2 + 2 * sc (vN tp)) 1 (nI (2 + rs (vN rg))) (29 + 18 * vN tp + 2 + 2 * sc (vN tp) + 1)) 0 0 (2 + rs (vN rg)))) (29 + 18 * vN tp + 2 + 2 * sc (vN tp)) 2 rg) (29 + 18 * vN tp + 2 + 2 * sc (vN tp)) 3 mo) (29 + 18 * vN tp) 4 (nI (sc (vN tp) + 1))
def XC_submit (rc : Nat) (tc : Nat) (rs : Nat → Nat) (rg : Int32) (tp : Int32) (mo : Int32) (sc : Nat → Nat) (M : Mm) (E : String) (u : Mm) : Prop := (((E = "java/lang/IllegalArgumentException" ∧ ¬ ((0 ≤ rg.toInt ∧ rg.toInt < (rc : Int)) ∧ (0 ≤ tp.toInt ∧ tp.toInt < (tc : Int)))) ∨ (E = "java/lang/IllegalStateException" ∧ (0 ≤ rg.toInt ∧ rg.toInt < (rc : Int)) ∧ (0 ≤ tp.toInt ∧ tp.toInt < (tc : Int)) ∧ ¬ M (29 + 18 * vN tp) 2 = 0) ∨ (E = "java/lang/IllegalArgumentException" ∧ (0 ≤ rg.toInt ∧ rg.toInt < (rc : Int)) ∧ (0 ≤ tp.toInt ∧ tp.toInt < (tc : Int)) ∧ M (29 + 18 * vN tp) 2 = 0 ∧ ¬ (M 5 1 = nI (2 + rs (vN rg)) ∧ gdP (rs (vN rg)) (M (13 + 2 * vN rg + 1)) (M (29 + 18 * vN tp) 0) mo (tB (M (29 + 18 * vN tp) 0)) (M (5 + 1)))) ∨ (E = "java/lang/UnsupportedOperationException" ∧ (0 ≤ rg.toInt ∧ rg.toInt < (rc : Int)) ∧ (0 ≤ tp.toInt ∧ tp.toInt < (tc : Int)) ∧ M (29 + 18 * vN tp) 2 = 0 ∧ (M 5 1 = nI (2 + rs (vN rg)) ∧ gdP (rs (vN rg)) (M (13 + 2 * vN rg + 1)) (M (29 + 18 * vN tp) 0) mo (tB (M (29 + 18 * vN tp) 0)) (M (5 + 1))) ∧ ((∃ j, j < sc (vN tp) ∧ j < sc (vN tp) ∧ M (29 + 18 * vN tp + 2 + 2 * j + 1) 1 = M (5 + 1) 1) ∨ sc (vN tp) = 8))) ∧ u = M)
def WR_submit (rc : Nat) (tc : Nat) (rs : Nat → Nat) (rg : Int32) (tp : Int32) (mo : Int32) (sc : Nat → Nat) (M : Mm) (r : Int32) (u : Mm) : Prop := (r = nI 0 ∧ ∃ w u0, PC_submit rc tc rs rg tp mo sc M w u0 ∧ u = st u0 154 0 w) ∨ (r = nI 1 ∧ XC_submit rc tc rs rg tp mo sc M "java/lang/IllegalArgumentException" u) ∨ (r = nI 2 ∧ XC_submit rc tc rs rg tp mo sc M "java/lang/IllegalStateException" u) ∨ (r = nI 3 ∧ XC_submit rc tc rs rg tp mo sc M "java/lang/UnsupportedOperationException" u)
def PM_submit (rg : Int32) (tp : Int32) (mo : Int32) (rc : Nat) (tc : Nat) (d : Nat) (rs : Nat → Nat) (sc : Nat → Nat) (M : Mm) (r : Int32) (u : Mm) : Prop := ((0 ≤ rg.toInt ∧ rg.toInt < (rc : Int)) ∧ (0 ≤ tp.toInt ∧ tp.toInt < (tc : Int)) ∧ M 145 (vN tp) = 0 ∧ (d = 2 + rs (vN rg) ∧ gdP (rs (vN rg)) (fun j => M 142 (6 * vN rg + j)) (M 143 (vN tp)) mo (tB (M 143 (vN tp))) (M 150)) ∧ ¬ (∃ k, k < sc (vN tp) ∧ M 149 (8 * (8 * vN tp + k) + 1) = M 150 1) ∧ sc (vN tp) < 8 ∧ r = nI (sc (vN tp) + 1) ∧ sbP M u (vN tp) (sc (vN tp)) d rg mo) ∨ (¬ ((0 ≤ rg.toInt ∧ rg.toInt < (rc : Int)) ∧ (0 ≤ tp.toInt ∧ tp.toInt < (tc : Int))) ∧ scM (st M 137 0 (nI 1)) u) ∨ ((0 ≤ rg.toInt ∧ rg.toInt < (rc : Int)) ∧ (0 ≤ tp.toInt ∧ tp.toInt < (tc : Int)) ∧ ¬ M 145 (vN tp) = 0 ∧ scM (st M 137 0 (nI 2)) u) ∨ ((0 ≤ rg.toInt ∧ rg.toInt < (rc : Int)) ∧ (0 ≤ tp.toInt ∧ tp.toInt < (tc : Int)) ∧ M 145 (vN tp) = 0 ∧ ¬ (d = 2 + rs (vN rg) ∧ gdP (rs (vN rg)) (fun j => M 142 (6 * vN rg + j)) (M 143 (vN tp)) mo (tB (M 143 (vN tp))) (M 150)) ∧ scM (st M 137 0 (nI 1)) u) ∨ ((0 ≤ rg.toInt ∧ rg.toInt < (rc : Int)) ∧ (0 ≤ tp.toInt ∧ tp.toInt < (tc : Int)) ∧ M 145 (vN tp) = 0 ∧ (d = 2 + rs (vN rg) ∧ gdP (rs (vN rg)) (fun j => M 142 (6 * vN rg + j)) (M 143 (vN tp)) mo (tB (M 143 (vN tp))) (M 150)) ∧ ((∃ k, k < sc (vN tp) ∧ M 149 (8 * (8 * vN tp + k) + 1) = M 150 1) ∨ sc (vN tp) = 8) ∧ scM (st M 137 0 (nI 3)) u)
def PC_count (tc : Nat) (tp : Int32) (M : Mm) (r : Int32) (u : Mm) : Prop := 0 ≤ tp.toInt ∧ tp.toInt < (tc : Int) ∧ r = M (29 + 18 * vN tp) 4 ∧ u = M
def XC_count (tc : Nat) (tp : Int32) (M : Mm) (E : String) (u : Mm) : Prop := (E = "java/lang/IllegalArgumentException" ∧ (tp.toInt < 0 ∨ (tc : Int) ≤ tp.toInt) ∧ u = M)
def WR_count (tc : Nat) (tp : Int32) (M : Mm) (r : Int32) (u : Mm) : Prop := (r = nI 0 ∧ ∃ w u0, PC_count tc tp M w u0 ∧ u = st u0 154 0 w) ∨ (r = nI 1 ∧ XC_count tc tp M "java/lang/IllegalArgumentException" u)
def PM_count (tc : Nat) (x : Int32) (M : Mm) (r : Int32) (u : Mm) : Prop := (0 ≤ x.toInt ∧ x.toInt < (tc : Int) ∧ r = M 146 (vN x) ∧ u = (st M 137 0 (nI 0))) ∨ (¬ (0 ≤ x.toInt ∧ x.toInt < (tc : Int)) ∧ u = (st M 137 0 (nI 1)))
def PC_seen (tc : Nat) (tp : Int32) (sc : Nat) (M : Mm) (r : Int32) (u : Mm) : Prop := 0 ≤ tp.toInt ∧ tp.toInt < (tc : Int) ∧ bP (∃ j, j < sc ∧ j < sc ∧ M (29 + 18 * vN tp + 2 + 2 * j + 1) 1 = M (5 + 1) 1) r ∧ u = M
def XC_seen (tc : Nat) (tp : Int32) (sc : Nat) (M : Mm) (E : String) (u : Mm) : Prop := (E = "java/lang/IllegalArgumentException" ∧ (tp.toInt < 0 ∨ (tc : Int) ≤ tp.toInt) ∧ u = M)
def WR_seen (tc : Nat) (tp : Int32) (sc : Nat) (M : Mm) (r : Int32) (u : Mm) : Prop := (r = nI 0 ∧ ∃ w u0, PC_seen tc tp sc M w u0 ∧ u = st u0 154 0 w) ∨ (r = nI 1 ∧ XC_seen tc tp sc M "java/lang/IllegalArgumentException" u)
def PM_seen (tc : Nat) (x : Int32) (sc : Nat) (M : Mm) (r : Int32) (u : Mm) : Prop := (0 ≤ x.toInt ∧ x.toInt < (tc : Int) ∧ bP (∃ k, k < sc ∧ M 149 (8 * (8 * vN x + k) + 1) = M 150 1) r ∧ u = (st M 137 0 (nI 0))) ∨ (¬ (0 ≤ x.toInt ∧ x.toInt < (tc : Int)) ∧ u = (st M 137 0 (nI 1)))
def PC_recount (rc : Nat) (tc : Nat) (sc : Nat) (rs : Nat → Nat) (sr : Nat → Nat) (tp : Int32) (M : Mm) (r : Int32) (u : Mm) : Prop := 0 ≤ tp.toInt ∧ tp.toInt < (tc : Int) ∧ (((∀ k, k < sc → swP rs sr sc (vN tp) M k) ∧ r = nI sc) ∨ (∃ k, k < sc ∧ ¬ swP rs sr sc (vN tp) M k ∧ (∀ j, j < k → swP rs sr sc (vN tp) M j) ∧ r = (-1) - nI k)) ∧ u = M
def XC_recount (rc : Nat) (tc : Nat) (sc : Nat) (rs : Nat → Nat) (sr : Nat → Nat) (tp : Int32) (M : Mm) (E : String) (u : Mm) : Prop := (E = "java/lang/IllegalArgumentException" ∧ (tp.toInt < 0 ∨ (tc : Int) ≤ tp.toInt) ∧ u = M)
def WR_recount (rc : Nat) (tc : Nat) (sc : Nat) (rs : Nat → Nat) (sr : Nat → Nat) (tp : Int32) (M : Mm) (r : Int32) (u : Mm) : Prop := (r = nI 0 ∧ ∃ w u0, PC_recount rc tc sc rs sr tp M w u0 ∧ u = st u0 154 0 w) ∨ (r = nI 1 ∧ XC_recount rc tc sc rs sr tp M "java/lang/IllegalArgumentException" u)
def PM_recount (tc : Nat) (x : Int32) (rc : Nat) (sc : Nat) (rs : Nat → Nat) (sr : Nat → Nat) (M : Mm) (r : Int32) (u : Mm) : Prop := (0 ≤ x.toInt ∧ x.toInt < (tc : Int) ∧ (((∀ k, k < sc → mswP rs sr (vN x) M k) ∧ r = nI sc) ∨ (∃ k, k < sc ∧ ¬ mswP rs sr (vN x) M k ∧ (∀ j, j < k → mswP rs sr (vN x) M j) ∧ r = (-1) - nI k)) ∧ scM (st M 137 0 (nI 0)) u) ∨ (¬ (0 ≤ x.toInt ∧ x.toInt < (tc : Int)) ∧ u = (st M 137 0 (nI 1)))
def PC_spoil (tc : Nat) (tp : Int32) (kx : Int32) (ix : Int32) (v : Int32) (sc : Nat) (sz : Nat → Nat) (M : Mm) (u : Mm) : Prop := 0 ≤ tp.toInt ∧ tp.toInt < (tc : Int) ∧ 0 ≤ kx.toInt ∧ kx.toInt < (sc : Int) ∧ 0 ≤ ix.toInt ∧ ix.toInt < (sz (vN kx) : Int) ∧ u = st M (29 + 18 * vN tp + 2 + 2 * vN kx + 1) (vN ix) v
def XC_spoil (tc : Nat) (tp : Int32) (kx : Int32) (ix : Int32) (v : Int32) (sc : Nat) (sz : Nat → Nat) (M : Mm) (E : String) (u : Mm) : Prop := (((E = "java/lang/IllegalArgumentException" ∧ (tp.toInt < 0 ∨ (tc : Int) ≤ tp.toInt)) ∨ (E = "java/lang/IndexOutOfBoundsException" ∧ 0 ≤ tp.toInt ∧ tp.toInt < (tc : Int) ∧ ((kx.toInt < 0 ∨ (sc : Int) ≤ kx.toInt) ∨ (0 ≤ kx.toInt ∧ kx.toInt < (sc : Int) ∧ ¬ (0 ≤ ix.toInt ∧ ix.toInt < (sz (vN kx) : Int)))))) ∧ u = M)
def WR_spoil (tc : Nat) (tp : Int32) (kx : Int32) (ix : Int32) (v : Int32) (sc : Nat) (sz : Nat → Nat) (M : Mm) (r : Int32) (u : Mm) : Prop := (r = nI 0 ∧ PC_spoil tc tp kx ix v sc sz M u) ∨ (r = nI 1 ∧ XC_spoil tc tp kx ix v sc sz M "java/lang/IllegalArgumentException" u) ∨ (r = nI 2 ∧ XC_spoil tc tp kx ix v sc sz M "java/lang/IndexOutOfBoundsException" u)
def PM_spoil (tc : Nat) (x : Int32) (kx : Int32) (ix : Int32) (v : Int32) (rc : Nat) (sc : Nat) (rs : Nat → Nat) (sr : Nat → Nat) (M : Mm) (u : Mm) : Prop := (0 ≤ x.toInt ∧ x.toInt < (tc : Int) ∧ 0 ≤ kx.toInt ∧ kx.toInt < (sc : Int) ∧ 0 ≤ ix.toInt ∧ ix.toInt < ((2 + rs (sr (vN kx)) : Nat) : Int) ∧ u = st (st M 137 0 (nI 0)) 149 (8 * (8 * vN x + vN kx) + vN ix) v) ∨ (¬ (0 ≤ x.toInt ∧ x.toInt < (tc : Int)) ∧ u = (st M 137 0 (nI 1))) ∨ (0 ≤ x.toInt ∧ x.toInt < (tc : Int) ∧ ¬ (0 ≤ kx.toInt ∧ kx.toInt < (sc : Int) ∧ 0 ≤ ix.toInt ∧ ix.toInt < ((2 + rs (sr (vN kx)) : Nat) : Int)) ∧ u = (st M 137 0 (nI 2)))
def PC_close (tc : Nat) (tp : Int32) (M : Mm) (r : Int32) (u : Mm) : Prop := 0 ≤ tp.toInt ∧ tp.toInt < (tc : Int) ∧ r = M (29 + 18 * vN tp) 4 ∧ M (29 + 18 * vN tp) 2 = 0 ∧ u = st M (29 + 18 * vN tp) 2 (nI 1)
def XC_close (tc : Nat) (tp : Int32) (M : Mm) (E : String) (u : Mm) : Prop := (((E = "java/lang/IllegalArgumentException" ∧ (tp.toInt < 0 ∨ (tc : Int) ≤ tp.toInt)) ∨ (E = "java/lang/IllegalStateException" ∧ 0 ≤ tp.toInt ∧ tp.toInt < (tc : Int) ∧ ¬ M (29 + 18 * vN tp) 2 = 0)) ∧ u = M)
def WR_close (tc : Nat) (tp : Int32) (M : Mm) (r : Int32) (u : Mm) : Prop := (r = nI 0 ∧ ∃ w u0, PC_close tc tp M w u0 ∧ u = st u0 154 0 w) ∨ (r = nI 1 ∧ XC_close tc tp M "java/lang/IllegalArgumentException" u) ∨ (r = nI 2 ∧ XC_close tc tp M "java/lang/IllegalStateException" u)
def PM_close (tc : Nat) (x : Int32) (M : Mm) (r : Int32) (u : Mm) : Prop := (0 ≤ x.toInt ∧ x.toInt < (tc : Int) ∧ r = M 146 (vN x) ∧ M 145 (vN x) = 0 ∧ u = st (st M 137 0 (nI 0)) 145 (vN x) (nI 1)) ∨ (¬ (0 ≤ x.toInt ∧ x.toInt < (tc : Int)) ∧ u = (st M 137 0 (nI 1))) ∨ (0 ≤ x.toInt ∧ x.toInt < (tc : Int) ∧ ¬ M 145 (vN x) = 0 ∧ u = (st M 137 0 (nI 2)))
def PC_export (rc : Nat) (tc : Nat) (sc : Nat) (rs : Nat → Nat) (sr : Nat → Nat) (tp : Int32) (M : Mm) (r : Int32) (u : Mm) : Prop := 0 ≤ tp.toInt ∧ tp.toInt < (tc : Int) ∧ r = nI (boN (fun k => rs (sr k)) sc) ∧ bdP M u (boN (fun k => rs (sr k)) sc) ((bfF (M (29 + 18 * vN tp) 0) (nI sc) (fun k => rs (sr k)) (fun k => M (13 + 2 * sr k + 1)) (fun k => M (29 + 18 * vN tp + 2 + 2 * k) 3) (fun k => M (29 + 18 * vN tp + 2 + 2 * k + 1)) sc))
def XC_export (rc : Nat) (tc : Nat) (sc : Nat) (rs : Nat → Nat) (sr : Nat → Nat) (tp : Int32) (M : Mm) (E : String) (u : Mm) : Prop := (E = "java/lang/IllegalArgumentException" ∧ (tp.toInt < 0 ∨ (tc : Int) ≤ tp.toInt) ∧ u = M)
def WR_export (rc : Nat) (tc : Nat) (sc : Nat) (rs : Nat → Nat) (sr : Nat → Nat) (tp : Int32) (M : Mm) (r : Int32) (u : Mm) : Prop := (r = nI 0 ∧ ∃ w u0, PC_export rc tc sc rs sr tp M w u0 ∧ u = st u0 154 0 w) ∨ (r = nI 1 ∧ XC_export rc tc sc rs sr tp M "java/lang/IllegalArgumentException" u)
def PM_export (tc : Nat) (x : Int32) (rc : Nat) (sc : Nat) (rs : Nat → Nat) (sr : Nat → Nat) (M : Mm) (r : Int32) (u : Mm) : Prop := (0 ≤ x.toInt ∧ x.toInt < (tc : Int) ∧ r = nI (boN (fun k => rs (sr k)) sc) ∧ bdM (st M 137 0 (nI 0)) u (boN (fun k => rs (sr k)) sc) ((bfF (M 143 (vN x)) (nI sc) (fun k => rs (sr k)) (fun k => fun j => M 142 (6 * sr k + j)) (fun k => M 148 (8 * vN x + k)) (fun k => fun j => M 149 (8 * (8 * vN x + k) + j)) sc))) ∨ (¬ (0 ≤ x.toInt ∧ x.toInt < (tc : Int)) ∧ u = (st M 137 0 (nI 1)))
def PC_bundle (b : Nat) (x : Int32) (M : Mm) (r : Int32) (u : Mm) : Prop := 0 ≤ x.toInt ∧ x.toInt < (b : Int) ∧ r = M 7 (vN x) ∧ u = M
def XC_bundle (b : Nat) (x : Int32) (M : Mm) (E : String) (u : Mm) : Prop := (E = "java/lang/IndexOutOfBoundsException" ∧ (x.toInt < 0 ∨ (b : Int) ≤ x.toInt) ∧ u = M)
def WR_bundle (b : Nat) (x : Int32) (M : Mm) (r : Int32) (u : Mm) : Prop := (r = nI 0 ∧ ∃ w u0, PC_bundle b x M w u0 ∧ u = st u0 154 0 w) ∨ (r = nI 1 ∧ XC_bundle b x M "java/lang/IndexOutOfBoundsException" u)
def PM_bundle (d : Nat) (x : Int32) (M : Mm) (r : Int32) (u : Mm) : Prop := (0 ≤ x.toInt ∧ x.toInt < (d : Int) ∧ r = M 151 (vN x) ∧ u = (st M 137 0 (nI 0))) ∨ (¬ (0 ≤ x.toInt ∧ x.toInt < (d : Int)) ∧ u = (st M 137 0 (nI 1)))
def PC_poke (b : Nat) (x : Int32) (v : Int32) (M : Mm) (u : Mm) : Prop := 0 ≤ x.toInt ∧ x.toInt ≤ (b : Int) ∧ x.toInt < 200 ∧ u = (if x.toInt = (b : Int) then st (st M 7 b v) 0 7 (nI (b + 1)) else st M 7 (vN x) v)
def XC_poke (b : Nat) (x : Int32) (v : Int32) (M : Mm) (E : String) (u : Mm) : Prop := (E = "java/lang/IndexOutOfBoundsException" ∧ (x.toInt < 0 ∨ (b : Int) < x.toInt ∨ 200 ≤ x.toInt) ∧ u = M)
def WR_poke (b : Nat) (x : Int32) (v : Int32) (M : Mm) (r : Int32) (u : Mm) : Prop := (r = nI 0 ∧ PC_poke b x v M u) ∨ (r = nI 1 ∧ XC_poke b x v M "java/lang/IndexOutOfBoundsException" u)
def PM_poke (b : Nat) (x : Int32) (v : Int32) (M : Mm) (u : Mm) : Prop := (0 ≤ x.toInt ∧ x.toInt ≤ (b : Int) ∧ x.toInt < 200 ∧ u = st (st (st M 137 0 (nI 0)) 151 (vN x) v) 137 18 (nI (if x.toInt = (b : Int) then b + 1 else b))) ∨ (¬ (0 ≤ x.toInt ∧ x.toInt ≤ (b : Int) ∧ x.toInt < 200) ∧ u = (st M 137 0 (nI 1)))
def PC_cut (b : Nat) (x : Int32) (M : Mm) (u : Mm) : Prop := 0 ≤ x.toInt ∧ x.toInt ≤ (b : Int) ∧ u = st M 0 7 x
def XC_cut (b : Nat) (x : Int32) (M : Mm) (E : String) (u : Mm) : Prop := (E = "java/lang/IllegalArgumentException" ∧ (x.toInt < 0 ∨ (b : Int) < x.toInt) ∧ u = M)
def WR_cut (b : Nat) (x : Int32) (M : Mm) (r : Int32) (u : Mm) : Prop := (r = nI 0 ∧ PC_cut b x M u) ∨ (r = nI 1 ∧ XC_cut b x M "java/lang/IllegalArgumentException" u)
def PM_cut (b : Nat) (x : Int32) (M : Mm) (u : Mm) : Prop := (0 ≤ x.toInt ∧ x.toInt ≤ (b : Int) ∧ u = st (st M 137 0 (nI 0)) 137 18 x) ∨ (¬ (0 ≤ x.toInt ∧ x.toInt ≤ (b : Int)) ∧ u = st (st M 137 0 (nI 1)) 137 18 (nI b))
def PC_check (b0 : Nat) (M : Mm) (r : Int32) (u : Mm) : Prop := ckOK (M 7) b0 ∧ r = M 7 1 ∧ scP M u
def XC_check (b0 : Nat) (M : Mm) (E : String) (u : Mm) : Prop := (E = "java/lang/IllegalArgumentException" ∧ ¬ ckOK (M 7) b0 ∧ scP M u)
def WR_check (b0 : Nat) (M : Mm) (r : Int32) (u : Mm) : Prop := (r = nI 0 ∧ ∃ w u0, PC_check b0 M w u0 ∧ u = st u0 154 0 w) ∨ (r = nI 1 ∧ XC_check b0 M "java/lang/IllegalArgumentException" u)
def PM_check (b0 : Nat) (M : Mm) (r : Int32) (u : Mm) : Prop := (ckOK (M 151) b0 ∧ r = M 151 1 ∧ scM (st M 137 0 (nI 0)) u) ∨ (¬ ckOK (M 151) b0 ∧ scM (st M 137 0 (nI 1)) u)
/-- the relation, whatever its numbers -/
def RR (M : Mm) : Prop := ∃ (mc rc tc d b : Nat) (rs sc : Nat → Nat) (sr : Nat → Nat → Nat), RelL mc rc tc d b rs sc sr M
/-- what the law sees: the number of the exception, the answer; and the relation -/
def CV (r : Int32) (u : Mm) : Prop := u 137 0 = r ∧ RR u
def CN (r bb : Int32) (u : Mm) : Prop := u 137 0 = r ∧ (r = nI 0 → u 154 0 = bb) ∧ RR u
/-- the second class's cells are not touched -/
def mdL (M N : Mm) : Prop := ∀ a, 137 ≤ a → a ≠ 154 → N a = M a
section CNS
variable {mc rc tc d b : Nat} {rs sc : Nat → Nat} {sr : Nat → Nat → Nat} {M N : Mm} {w bb v : Int32} {k : Nat}
theorem rr (h : RelL mc rc tc d b rs sc sr M) : RR M := ⟨mc, rc, tc, d, b, rs, sc, sr, h⟩
theorem sL_1 : scL M (st M 137 0 v) := ⟨fun a _ _ _ _ _ h _ _ _ => st_r _ _ _ h, fun c h _ _ _ _ _ => st_c _ _ _ h⟩
theorem sL_2 : scL M (st (st M 154 0 w) 137 0 v) := ⟨fun a _ _ _ _ _ h _ _ h2 => by rw [st_r _ _ _ h, st_r _ _ _ h2], fun c h _ _ _ _ _ => by rw [st_c _ _ _ h, st_r _ _ _ (by decide)]⟩
theorem sL_3 (hs : scM (st M 137 0 v) N) : scL M N := ⟨fun a _ _ _ _ _ h h2 h3 _ => by rw [hs.1 a h h2 h3, st_r _ _ _ h], fun c h a1 a2 a3 a4 a5 => by rw [hs.2 c a1 a2 a3 a4 a5, st_c _ _ _ h]⟩
theorem sL_tr {K : Mm} (h : scL M N) (h2 : scL N K) : scL M K := ⟨fun a a1 a2 a3 a4 a5 a6 a7 a8 a9 => (h2.1 a a1 a2 a3 a4 a5 a6 a7 a8 a9).trans (h.1 a a1 a2 a3 a4 a5 a6 a7 a8 a9), fun c a1 a2 a3 a4 a5 a6 => (h2.2 c a1 a2 a3 a4 a5 a6).trans (h.2 c a1 a2 a3 a4 a5 a6)⟩
theorem sL_4 : scL M (st M 154 0 w) := ⟨fun a _ _ _ _ _ _ _ _ h => st_r _ _ _ h, fun c _ _ _ _ _ _ => by rw [st_r _ _ _ (by decide)]⟩
theorem sL_5 (hs : scP M N) : scL M N := ⟨fun a h1 h2 h3 h4 h5 _ _ _ _ => hs a h1 h2 h3 h4 h5, fun c _ _ _ _ _ _ => by rw [hs 137 (by decide) (by decide) (by decide) (by decide) (by decide)]⟩
theorem sM_0 (hs : scM (st M 137 0 v) N) : N 137 0 = v := by rw [hs.2 0 (by decide) (by decide) (by decide) (by decide) (by decide), st_s]
theorem cn_f (h : RelL mc rc tc d b rs sc sr M) (hk : nI k ≠ nI 0) : CN (nI k) bb (st M 137 0 (nI k)) := ⟨st_s _ _ _ _, fun e => absurd e hk, rr (rel_sc h sL_1)⟩
theorem cv_f (h : RelL mc rc tc d b rs sc sr M) : CV (nI k) (st M 137 0 (nI k)) := ⟨st_s _ _ _ _, rr (rel_sc h sL_1)⟩
theorem cn_r (h : RelL mc rc tc d b rs sc sr M) (e : w = bb) : CN (nI 0) bb (st (st M 154 0 w) 137 0 (nI 0)) := ⟨st_s _ _ _ _, fun _ => by rw [st_r _ _ _ (by decide), st_s]; exact e, rr (rel_sc h sL_2)⟩
theorem cn_s (h : RelL mc rc tc d b rs sc sr M) (hs : scM (st (st M 154 0 w) 137 0 (nI 0)) N) (e : w = bb) : CN (nI 0) bb N := ⟨sM_0 hs, fun _ => by rw [hs.1 154 (by decide) (by decide) (by decide), st_r _ _ _ (by decide), st_s]; exact e, rr (rel_sc h (sL_tr sL_4 (sL_3 hs)))⟩
theorem cn_g (h : RelL mc rc tc d b rs sc sr M) (hs : scM (st M 137 0 (nI k)) N) (hk : nI k ≠ nI 0) : CN (nI k) bb N := ⟨sM_0 hs, fun e => absurd e hk, rr (rel_sc h (sL_3 hs))⟩
theorem md_rf : mdL M M := fun _ _ _ => rfl
theorem md_w (h : mdL M N) : mdL M (st N 154 0 w) := fun a h1 h2 => by rw [st_r _ _ _ h2]; exact h a h1 h2
theorem md_st (h : mdL M N) {i j : Nat} (hi : i < 137) : mdL M (st N i j w) := fun a h1 h2 => by rw [st_r _ _ _ (by omega)]; exact h a h1 h2
theorem md_up (h : mdL M N) {i : Nat} (hi : i < 137) {f : Nat → Int32} : mdL M (va_up N i f) := fun a h1 h2 => by rw [va_up_ne _ _ (by omega)]; exact h a h1 h2
/-- the second class's half of the relation -/
def RelM (mc rc tc d b : Nat) (rs sc : Nat → Nat) (sr : Nat → Nat → Nat) (M : Mm) : Prop := M 137 3 = nI mc ∧ M 137 5 = nI rc ∧ M 137 8 = nI tc ∧ M 137 16 = nI d ∧ M 137 18 = nI b ∧ mrP rc rs M ∧ mbP tc M ∧ (∀ t, M 146 t = nI (sc t)) ∧ (∀ t, mtP rc (sr t) (sc t) t M) ∧ tbP M
theorem rm_of (h : RelL mc rc tc d b rs sc sr M) (hm : mdL M N) : RelM mc rc tc d b rs sc sr N := by
  have e := fun a (h1 : 137 ≤ a) (h2 : a ≠ 154) => hm a h1 h2
  refine ⟨?_, ?_, ?_, ?_, ?_, ?_, ?_, ?_, ?_, ?_⟩
  · rw [e 137 (by decide) (by decide)]; exact rl_mmc h
  · rw [e 137 (by decide) (by decide)]; exact rl_mrc h
  · rw [e 137 (by decide) (by decide)]; exact rl_mtc h
  · rw [e 137 (by decide) (by decide)]; exact rl_md h
  · rw [e 137 (by decide) (by decide)]; exact rl_mb h
  · unfold mrP; rw [e 141 (by decide) (by decide), e 142 (by decide) (by decide)]; exact rl_mrg h
  · unfold mbP; rw [e 143 (by decide) (by decide), e 144 (by decide) (by decide)]; exact rl_mbs h
  · intro t; rw [e 146 (by decide) (by decide)]; exact rl_mcn h t
  · intro t k hk
    rcases Nat.lt_or_ge t tc with q | q
    · rw [e 147 (by decide) (by decide)]; exact rl_mst h t q k hk
    · rw [rl_scz h t q] at hk; exact absurd hk (Nat.not_lt_zero _)
  · exact tb_mx (rl_tbl h) (e 138 (by decide) (by decide)) (e 139 (by decide) (by decide))
theorem st_all (h : RelL mc rc tc d b rs sc sr M) (t : Nat) : stP rc rs (sr t) (sc t) t M := fun k hk => by
  rcases Nat.lt_or_ge t tc with q | q
  · exact rl_cst h t q k hk
  · rw [rl_scz h t q] at hk; exact absurd hk (Nat.not_lt_zero _)
theorem bP_eq {P Q : Prop} {a c : Int32} (h : P ↔ Q) (h1 : bP P a) (h2 : bP Q c) : a = c := by
  rcases h1 with ⟨p, rfl⟩ | ⟨p, rfl⟩ <;> rcases h2 with ⟨q, rfl⟩ | ⟨q, rfl⟩
  · rfl
  · exact absurd (h.mp p) q
  · exact absurd (h.mpr q) p
  · rfl
/-- a stored signature is well on both sides, or on none -/
theorem sw_iff (h : RelL mc rc tc d b rs sc sr M) {t : Nat} (ht : t < tc) (hk : k < sc t) : swP rs (sr t) (sc t) t M k ↔ mswP rs (sr t) t M k := by
  have s1 := rl_cst h t ht k hk
  have f : ∀ j, j < sc t → M (29 + 18 * t + 2 + 2 * j + 1) 1 = M 149 (8 * (8 * t + j) + 1) := fun j hj => rl_snu h t ht j hj 1 (by omega)
  unfold swP mswP
  rw [rl_vals h t ht, rl_smo h t ht k hk]
  refine and_congr (gd_iff (fun i hi => rl_rows h _ s1.2.1 i hi) (fun i hi => rl_snu h t ht k hk i hi)) (not_congr ⟨fun ⟨j, hj, _, e⟩ => ⟨j, hj, ?_⟩, fun ⟨j, hj, e⟩ => ⟨j, hj, by omega, ?_⟩⟩)
  · rw [← f j (by omega), ← f k hk]; exact e
  · rw [f j (by omega), f k hk]; exact e
theorem msw_w {rs1 sr1 : Nat → Nat} {t : Nat} : mswP rs1 sr1 t (st M 154 0 w) k ↔ mswP rs1 sr1 t M k := by
  unfold mswP
  rw [st_r M 0 w (show 142 ≠ 154 by decide), st_r M 0 w (show 143 ≠ 154 by decide), st_r M 0 w (show 148 ≠ 154 by decide), st_r M 0 w (show 149 ≠ 154 by decide)]
theorem m1_nI {x : Int32} (h0 : 0 ≤ x.toInt) : ((vN x : Nat) : Int) = x.toInt := by rw [vN_toInt]; omega
end CNS
