/-! the parts of the heap, where only other cells have changed -/
theorem MEM.on {h h' : pz_H} {np : Nat} {mw mo mr mt : Nat → Int32} {mn : Nat → Bool} {md : Nat → Int32} {ts ck : Nat} (m : MEM h np mw mo mr mt mn md ts ck) (f : ∀ c, 1 ≤ c → c < 8 → h' c = h c) : MEM h' np mw mo mr mt mn md ts ck := by
  unfold MEM
  rw [f (1) (by omega) (by omega), f (2) (by omega) (by omega), f (3) (by omega) (by omega), f (4) (by omega) (by omega), f (5) (by omega) (by omega), f (6) (by omega) (by omega), f (7) (by omega) (by omega)]
  exact m
theorem DSK.on {h h' : pz_H} {nb : Nat} {dw dn : Nat → Int32} (m : DSK h nb dw dn) (f : ∀ c, 8 ≤ c → c < 11 → h' c = h c) : DSK h' nb dw dn := by
  unfold DSK
  rw [f (8) (by omega) (by omega), f (9) (by omega) (by omega), f (10) (by omega) (by omega)]
  exact m
theorem ORD.on {h h' : pz_H} {os : Nat → Int32} {ol : Nat} (m : ORD h os ol) (f : ∀ c, 11 ≤ c → c < 13 → h' c = h c) : ORD h' os ol := by
  unfold ORD
  rw [f (11) (by omega) (by omega), f (12) (by omega) (by omega)]
  exact m
theorem FRA.on {h h' : pz_H} {a : Nat} {fb : Nat → Int32} {fl : Nat} (m : FRA a h fb fl) (f : ∀ c, a ≤ c → c < a + 2 → h' c = h c) : FRA a h' fb fl := by
  unfold FRA
  rw [f (a) (by omega) (by omega), f (a + 1) (by omega) (by omega)]
  exact m
theorem PGL.on {h h' : pz_H} {a : Nat} {pp : Nat → Int32} {pl pe : Nat} (m : PGL a h pp pl pe) (f : ∀ c, a ≤ c → c < a + 2 → h' c = h c) : PGL a h' pp pl pe := by
  unfold PGL
  rw [f (a) (by omega) (by omega), f (a + 1) (by omega) (by omega)]
  exact m
theorem TAB.on {h h' : pz_H} {a : Nat} {td : Nat → Int32} {tl : Nat} (m : TAB a h td tl) (f : ∀ c, a ≤ c → c < a + 2 → h' c = h c) : TAB a h' td tl := by
  unfold TAB
  rw [f (a) (by omega) (by omega), f (a + 1) (by omega) (by omega)]
  exact m
theorem PRG.on {h h' : pz_H} {a : Nat} {gc go gy gn : Nat → Int32} {gl : Nat} (m : PRG a h gc go gy gn gl) (f : ∀ c, a ≤ c → c < a + 5 → h' c = h c) : PRG a h' gc go gy gn gl := by
  unfold PRG
  rw [f (a) (by omega) (by omega), f (a + 1) (by omega) (by omega), f (a + 2) (by omega) (by omega), f (a + 3) (by omega) (by omega), f (a + 4) (by omega) (by omega)]
  exact m
theorem QUE.on {h h' : pz_H} {a : Nat} {qb : Nat → Nat → Int32} {qn : Nat → Nat} {qf ql : Nat} (m : QUE a h qb qn qf ql) (f : ∀ c, a ≤ c → c < a + 10 → h' c = h c) : QUE a h' qb qn qf ql := by
  obtain ⟨m1, m2, m3, m4⟩ := m
  exact ⟨(f a (by omega) (by omega)).trans m1, (f (a + 1) (by omega) (by omega)).trans m2, fun j hj => (m3 j hj).on (fun c h1 h2 => f c (by omega) (by omega)), m4⟩
/-- only the cells lo .. hi - 1 and lo2 .. hi2 - 1 have changed -/
def fr2 (lo hi lo2 hi2 : Nat) (h h' : pz_H) : Prop := ∀ a, (a < lo ∨ hi ≤ a) → (a < lo2 ∨ hi2 ≤ a) → h' a = h a
theorem fr2.rf {lo hi lo2 hi2 : Nat} {h : pz_H} : fr2 lo hi lo2 hi2 h h := fun _ _ _ => rfl
theorem fr2.tr {lo hi lo2 hi2 : Nat} {h h1 h2 : pz_H} (a : fr2 lo hi lo2 hi2 h h1) (b : fr2 lo hi lo2 hi2 h1 h2) : fr2 lo hi lo2 hi2 h h2 := fun q h1 h2 => (b q h1 h2).trans (a q h1 h2)
theorem fr2.l {lo hi lo2 hi2 : Nat} {h h1 h2 : pz_H} (a : fr2 lo hi lo2 hi2 h h1) (b : frm lo hi h1 h2) : fr2 lo hi lo2 hi2 h h2 := fun q h1 h2 => (b q h1).trans (a q h1 h2)
theorem fr2.r {lo hi lo2 hi2 : Nat} {h h1 h2 : pz_H} (a : fr2 lo hi lo2 hi2 h h1) (b : frm lo2 hi2 h1 h2) : fr2 lo hi lo2 hi2 h h2 := fun q h1 h2 => (b q h2).trans (a q h1 h2)
theorem fr2.st {lo hi lo2 hi2 k : Nat} {h h1 h2 : pz_H} (a : fr2 lo hi lo2 hi2 h h1) (o : ∀ j, j ≠ k → h2 j = h1 j) (hk : (lo ≤ k ∧ k < hi) ∨ (lo2 ≤ k ∧ k < hi2)) : fr2 lo hi lo2 hi2 h h2 := fun q g1 g2 => (o q (by omega)).trans (a q g1 g2)
