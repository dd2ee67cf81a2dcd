/-! ===== full cuts together: what is the most ===== -/
def cand (S1 S2 : Nat → Bool) : Nat → Bool := fun v => S1 v && S2 v
def cor2 (S1 S2 : Nat → Bool) : Nat → Bool := fun v => S1 v || S2 v
theorem DM_mod {S1 S2 : Nat → Bool} {g : Nat → Int} : DM (cand S1 S2) g + DM (cor2 S1 S2) g = DM S1 g + DM S2 g := by
  unfold DM
  rw [← zs_add, ← zs_add]
  refine zs_congr 9 fun v _ => ?_
  unfold cand cor2
  cases S1 v <;> cases S2 v <;> simp <;> omega
theorem cross_sub {C : Nat → Nat → Int} {S1 S2 : Nat → Bool} (hC : ∀ a b, a < 9 → b < 9 → 0 ≤ C a b) : crossing (cand S1 S2) C + crossing (cor2 S1 S2) C ≤ crossing S1 C + crossing S2 C := by
  unfold crossing
  rw [← zs_add, ← zs_add]
  refine zs_le 9 fun v hv => ?_
  rw [← zs_add, ← zs_add]
  refine zs_le 9 fun u hu => ?_
  have := hC u v hu hv
  unfold cand cor2
  cases S1 v <;> cases S2 v <;> cases S1 u <;> cases S2 u <;> simp <;> omega
/-- what lies outside S gets all that can cross -/
def TI (C : Nat → Nat → Int) (S : Nat → Bool) (g : Nat → Int) : Prop := S 0 = true ∧ DM S g = crossing S C
theorem TI.and {C N : Nat → Nat → Int} {S1 S2 : Nat → Bool} {g : Nat → Int} (hC : ∀ a b, a < 9 → b < 9 → 0 ≤ C a b) (hF : Feas C N g) (h1 : TI C S1 g) (h2 : TI C S2 g) : TI C (cand S1 S2) g := by
  have z1 : cand S1 S2 0 = true := by unfold cand; rw [h1.1, h2.1]; rfl
  have z2 : cor2 S1 S2 0 = true := by unfold cor2; rw [h1.1]; rfl
  have a := feas_le hF z1
  have b := feas_le hF z2
  have c := DM_mod (S1 := S1) (S2 := S2) (g := g)
  have d := cross_sub (S1 := S1) (S2 := S2) hC
  have e1 := h1.2
  have e2 := h2.2
  exact ⟨z1, by omega⟩
theorem DM_gS {S : Nat → Bool} {od : Nat → Nat} {x : Nat → Int} : ∀ k, (∀ i, i < k → od i + 1 < 9) → DM S (gS od x k) = zs (fun i => if S (od i + 1) = true then 0 else x i) k
  | 0, _ => by
    refine (zs_congr 9 fun v _ => ?_).trans (zs_0 9)
    show (if S v = true then 0 else (0 : Int)) = 0
    split <;> rfl
  | k + 1, h => by
    show DM S (addg (gS od x k) (od k + 1) (x k)) = zs (fun i => if S (od i + 1) = true then 0 else x i) k + (if S (od k + 1) = true then 0 else x k)
    rw [DM_add (h k (by omega)), DM_gS k (fun i hi => h i (by omega))]
theorem SEQ.feas {C : Nat → Nat → Int} {gv : Int} {od : Nat → Nat} {cap x : Nat → Int} (hC : ∀ a b, a < 9 → b < 9 → 0 ≤ C a b) : ∀ k, SEQ C gv od cap x k → ∃ N, Feas C N (gS od x k)
  | 0, _ => ⟨fun _ _ => 0, fun _ _ _ _ => rfl, hC, fun v _ _ => zs_0 9⟩
  | k + 1, h => (h k (by omega)).2.2.1
/-- those in P have all that can flow to them, or all is given -/
theorem SEQ.tight {C : Nat → Nat → Int} {gv : Int} {od : Nat → Nat} {cap x : Nat → Int} (hC : ∀ a b, a < 9 → b < 9 → 0 ≤ C a b) (hg : 0 ≤ gv) (P : Nat → Bool) : ∀ k, SEQ C gv od cap x k → (∀ i, i < k → od i + 1 < 9) → (∀ i, i < k → P i = true → x i < cap i ∨ gv ≤ cap i) → (∀ i, i < k → P i = false → cap i = 0) → gv ≤ zs x k ∨ ∃ S, TI C S (gS od x k) ∧ ∀ i, i < k → P i = true → S (od i + 1) = false
  | 0, _, _, _, _ => by
    refine Or.inr ⟨fun _ => true, ⟨rfl, ?_⟩, fun i hi => absurd hi (Nat.not_lt_zero _)⟩
    have h1 : DM (fun _ => true) (gS od x 0) = 0 := (zs_congr 9 fun v _ => if_pos rfl).trans (zs_0 9)
    have h2 : crossing (fun _ => true) C = 0 := (zs_congr 9 fun v _ => (zs_congr 9 fun u _ => if_neg (by simp)).trans (zs_0 9)).trans (zs_0 9)
    rw [h1, h2]
  | k + 1, h, hod, h1, h2 => by
    have hk := h k (by omega)
    have hpre : SEQ C gv od cap x k := fun i hi => h i (by omega)
    obtain ⟨-, p2, p3⟩ := SEQ.pos hg k hpre
    have hx0 := hk.1
    have hx1 := hk.2.1
    obtain ⟨N, hF⟩ := hk.2.2.1
    have htk := hod k (by omega)
    have eg : gS od x (k + 1) = addg (gS od x k) (od k + 1) (x k) := rfl
    have ez : zs x (k + 1) = zs x k + x k := rfl
    rcases SEQ.tight hC hg P k hpre (fun i hi => hod i (by omega)) (fun i hi => h1 i (by omega)) (fun i hi => h2 i (by omega)) with c | ⟨S, hS, hSP⟩
    · left
      omega
    · -- S stays full
      have hS2 : TI C S (gS od x (k + 1)) := by
        refine ⟨hS.1, ?_⟩
        have a := feas_le hF hS.1
        have b := hS.2
        rw [eg]
        rw [DM_add htk] at a ⊢
        by_cases c : S (od k + 1) = true
        · rw [if_pos c]
          omega
        · rw [if_neg c] at a ⊢
          omega
      cases hP : P k with
      | false =>
        refine Or.inr ⟨S, hS2, fun i hi hPi => hSP i ?_ hPi⟩
        by_cases e : i = k
        · rw [e, hP] at hPi
          cases hPi
        · omega
      | true =>
        rcases hk.2.2.2 with e | ⟨ht, S', a0, at', a3⟩
        · left
          rcases h1 k (by omega) hP with q | q <;> omega
        · refine Or.inr ⟨cand S S', hS2.and hC hF ⟨a0, a3⟩, fun i hi hPi => ?_⟩
          unfold cand
          by_cases e : i = k
          · rw [e, at', Bool.and_false]
          · rw [hSP i (by omega) hPi, Bool.false_and]
/-- no more can be brought to those in P than what they get one after the other -/
theorem SEQ.ub {C : Nat → Nat → Int} {gv : Int} {od od' : Nat → Nat} {cap cap' x y : Nat → Int} {n len : Nat} {P Q : Nat → Bool} (hC : ∀ a b, a < 9 → b < 9 → 0 ≤ C a b) (hg : 0 ≤ gv) (hy : SEQ C gv od' cap' y n) (hod' : ∀ i, i < n → od' i + 1 < 9) (h1 : ∀ i, i < n → P i = true → y i < cap' i ∨ gv ≤ cap' i) (h2 : ∀ i, i < n → P i = false → cap' i = 0)
    (hx : SEQ C gv od cap x len) (hod : ∀ i, i < len → od i + 1 < 9) (hQ : ∀ i, i < len → Q i = true → ∃ j, j < n ∧ P j = true ∧ od' j = od i) : zs (fun i => if Q i = true then x i else 0) len ≤ zs y n := by
  obtain ⟨p1, p2, p3⟩ := SEQ.pos hg len hx
  obtain ⟨q1, q2, q3⟩ := SEQ.pos hg n hy
  rcases SEQ.tight hC hg P n hy hod' h1 h2 with c | ⟨S, hS, hSP⟩
  · refine Int.le_trans (zs_le (g := x) len fun i hi => ?_) (Int.le_trans p3 c)
    have := p1 i hi
    split <;> omega
  · obtain ⟨N, hF⟩ := hx.feas hC len
    have a := feas_le hF hS.1
    rw [DM_gS len hod, ← hS.2, DM_gS n hod'] at a
    refine Int.le_trans (zs_le (g := fun i => if S (od i + 1) = true then 0 else x i) len fun i hi => ?_) (Int.le_trans a (zs_le n fun i hi => ?_))
    · have := p1 i hi
      cases hq : Q i with
      | false =>
        rw [if_neg (by decide)]
        split <;> omega
      | true =>
        obtain ⟨j, hj, hPj, e⟩ := hQ i hi hq
        rw [if_pos rfl, ← e, if_neg (by rw [hSP j hj hPj]; decide)]
        exact Int.le_refl _
    · have := q1 i hi
      split <;> omega
/-- as long as none has all its units, they get together what can flow to them -/
theorem SEQ.eqs {C : Nat → Nat → Int} {gv : Int} {od od' : Nat → Nat} {cap cap' x y : Nat → Int} {n k : Nat} {P : Nat → Bool} (hC : ∀ a b, a < 9 → b < 9 → 0 ≤ C a b) (hg : 0 ≤ gv) (hy : SEQ C gv od' cap' y n) (hod' : ∀ i, i < n → od' i + 1 < 9) (h2 : ∀ i, i < n → P i = false → cap' i = 0)
    (hx : SEQ C gv od cap x k) (hod : ∀ i, i < k → od i + 1 < 9) (hlt : ∀ i, i < k → x i < cap i) (hP : ∀ j, j < n → P j = true → ∃ i, i < k ∧ od i = od' j) : zs y n ≤ zs x k := by
  obtain ⟨p1, p2, p3⟩ := SEQ.pos hg k hx
  obtain ⟨q1, q2, q3⟩ := SEQ.pos hg n hy
  rcases SEQ.tight hC hg (fun _ => true) k hx hod (fun i hi _ => Or.inl (hlt i hi)) (fun i hi z => by cases z) with c | ⟨S, hS, hSP⟩
  · omega
  · obtain ⟨N, hF⟩ := hy.feas hC n
    have a := feas_le hF hS.1
    rw [DM_gS n hod', ← hS.2, DM_gS k hod] at a
    have e : zs (fun i => if S (od' i + 1) = true then 0 else y i) n = zs y n := zs_congr n fun j hj => by
      cases hp : P j with
      | true =>
        obtain ⟨i, hi, e⟩ := hP j hj hp
        rw [← e, if_neg (by rw [hSP i hi rfl]; decide)]
      | false =>
        have h0 := h2 j hj hp
        have := q1 j hj
        have : y j = 0 := by omega
        rw [this]
        split <;> rfl
    rw [e] at a
    refine Int.le_trans a (zs_le k fun i hi => ?_)
    have := p1 i hi
    split <;> omega
