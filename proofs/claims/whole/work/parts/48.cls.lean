/-! THE CLASS'S RULES: the object (role r), its kinds (r2), its numbers (r3) -/
def rU (G : gG) (h : fH) (r r2 r3 R cnt : Nat) (kf nf : Nat → Nat) : Prop := ∃ a1 a2 : Nat, h R = some (r, 0, .inr (6, [.int (nI cnt), .ref a1, .ref a2])) ∧ h a1 = some (r2, 0, .inl (G.2.1 0, 40, .inl (fun i => nI (kf i)))) ∧ h a2 = some (r3, 0, .inl (G.2.1 0, 160, .inl (fun i => nI (nf i)))) ∧ cnt ≤ 40 ∧ (∀ i, kf i < 6) ∧ ∀ i, nf i ≤ 100000000
theorem rU.keepF {G : gG} {h h' : fH} {S : List Nat} {r r2 r3 R cnt : Nat} {kf nf : Nat → Nat} (H : rU G h r r2 r3 R cnt kf nf) (hF : fF (inR S) h h') (h1 : ¬ r ∈ S) (h2 : ¬ r2 ∈ S) (h3 : ¬ r3 ∈ S) : rU G h' r r2 r3 R cnt kf nf := by
  obtain ⟨a1, a2, g1, g2, g3, b⟩ := H
  exact ⟨a1, a2, hF _ _ _ _ g1 h1, hF _ _ _ _ g2 h2, hF _ _ _ _ g3 h3, b⟩
/-- rule n is of a kind, of goods, of a strength -/
def fq (kf nf : Nat → Nat) (K g st n : Nat) : Bool := decide (kf n = K ∧ (4 ≤ K ∨ nf (n * 4 + 0) = g) ∧ (K ≠ 0 ∨ (nf (n * 4 + 1) ≤ st ∧ st < nf (n * 4 + 2))))
/-- the class's rules are those of place e -/
def cR (G : gG) (h : fH) (R : Nat) (rr rm : Nat → Nat) (e : Nat) : Prop := ∃ kf nf : Nat → Nat, rU G h 7 8 9 R (rm e) kf nf ∧ ∀ n, n < rm e → kf n = rr ((e * 40 + n) * 5) ∧ ∀ k, k < nv (kf n) → nf (n * 4 + k) = rr ((e * 40 + n) * 5 + (k + 1))
theorem nv_3 {K : Nat} (h : K < 4) : 1 ≤ nv K ∧ (K = 0 → nv K = 4) ∧ 2 ≤ nv K := by
  rcases (show K = 0 ∨ K = 1 ∨ K = 2 ∨ K = 3 by omega) with rfl | rfl | rfl | rfl <;> decide
theorem fq_fp {kf nf rr rm : Nat → Nat} {e : Nat} (H : ∀ n, n < rm e → kf n = rr ((e * 40 + n) * 5) ∧ ∀ k, k < nv (kf n) → nf (n * 4 + k) = rr ((e * 40 + n) * 5 + (k + 1))) (K g st : Nat) : ff (fq kf nf K g st) 0 (rm e) = ff (fp rr e K g st) 0 (rm e) := by
  refine ff_congr (fun n _ hn => ?_)
  obtain ⟨h1, h2⟩ := H n (by omega)
  unfold fq fp
  rw [← h1]
  by_cases hk : kf n = K
  · by_cases h4 : 4 ≤ K
    · have h0 : K ≠ 0 := by omega
      simp [hk, h4, h0]
    · have hn3 := nv_3 (K := K) (by omega)
      rw [hk] at h2
      rw [h2 0 (by omega)]
      by_cases h0 : K = 0
      · have h5 := hn3.2.1 h0
        rw [h2 1 (by omega), h2 2 (by omega)]
      · simp [hk, h0]
  · simp [hk]
/-- a word's end as the class finds it -/
theorem we_cls {tx : Nat → Nat} {n e0 b f0 : Nat} (he : e0 ≤ n) (hb : b = wb tx n e0) (hf : f0 = fi (qE tx) b (n - b)) : (¬ f0 = b → we tx n b = f0) ∧ (f0 = b → ¬ f0 < n → we tx n b = f0) ∧ (f0 = b → f0 < n → we tx n b = f0 + 1) := by
  have hbl := wb_le (tx := tx) he
  rw [← hb] at hbl
  refine ⟨fun h => ?_, fun h1 h2 => ?_, fun h1 h2 => ?_⟩
  · unfold we
    rw [if_neg, hf]
    rintro ⟨q1, q2⟩
    refine h ?_
    rw [hf, show n - b = (n - b - 1) + 1 by omega]
    exact fi_yes (by simp [qE, q2])
  · unfold we
    rw [if_neg (fun q => h2 (by rw [h1]; exact q.1)), hf]
  · have hq : qE tx (fi (qE tx) b (n - b)) = true := fi_at (P := qE tx) (n - b) b (by omega)
    rw [← hf, h1] at hq
    have hq2 : qB tx (fi (qB tx) e0 (n - e0)) = true := fi_at (P := qB tx) (n - e0) e0 (by show wb tx n e0 < _; omega)
    have hq3 : qB tx b = true := by rw [hb]; exact hq2
    have h59 : tx b = 59 := by
      simp only [qE, qB, Bool.or_eq_true, decide_eq_true_eq, Bool.not_eq_true'] at hq hq3
      rcases hq with q | q
      · rw [hq3] at q; cases q
      · exact q
    unfold we
    rw [if_pos ⟨by omega, h59⟩, h1]
/-! the forms -/
def frm : Nat → List Nat
  | 0 => [114, 97, 116, 101, 32, 71, 32, 102, 114, 111, 109, 32, 83, 32, 116, 111, 32, 83, 32, 112, 97, 121, 32, 80, 59]
  | 1 => [115, 109, 97, 108, 108, 32, 71, 32, 98, 101, 108, 111, 119, 32, 76, 32, 116, 105, 109, 101, 115, 32, 72, 59]
  | 2 => [108, 111, 115, 115, 32, 71, 32, 117, 112, 116, 111, 32, 72, 59]
  | 3 => [97, 119, 97, 121, 32, 71, 32, 116, 105, 109, 101, 115, 32, 72, 59]
  | 4 => [114, 111, 117, 110, 100, 32, 78, 59]
  | _ => [108, 97, 116, 101, 32, 72, 59]
def fx (K j : Nat) : Nat := (frm K).getD j 0
def fn (K : Nat) : Nat := (frm K).length
def wq (K : Nat) : Nat → Nat
  | 0 => wb (fx K) (fn K) 0
  | k + 1 => wb (fx K) (fn K) (we (fx K) (fn K) (wq K k))
def wz (K k : Nat) : Nat := we (fx K) (fn K) (wq K k)
/-- the letter of a number's greatest value (and its least) -/
def ltr (K M : Nat) : Nat × Nat := if K = 4 then (78, 1) else if M = 9 then (71, 0) else if M = 10000 then (83, 0) else if M = 1000000 then (80, 0) else if M = 100000000 then (76, 0) else (72, 0)
def fmB (K k : Nat) : Bool := match plg K k with
  | .inl M => decide (wq K (k + 1) < fn K ∧ wq K (k + 1) < wz K (k + 1) ∧ wz K (k + 1) ≤ fn K ∧ fx K (wq K (k + 1)) = (ltr K M).1 ∧ (((ltr K M).1, (ltr K M).2, M) ∈ [(71, 0, 9), (83, 0, 10000), (80, 0, 1000000), (76, 0, 100000000), (72, 0, 100), (78, 1, 1000)]))
  | .inr w => decide (wq K (k + 1) < fn K ∧ wq K (k + 1) < wz K (k + 1) ∧ wz K (k + 1) ≤ fn K ∧ wz K (k + 1) - wq K (k + 1) = wL w ∧ (∀ j, j < wL w → fx K (wq K (k + 1) + j) = aL (wS w + j)) ∧ ¬ (65 ≤ fx K (wq K (k + 1)) ∧ fx K (wq K (k + 1)) ≤ 90))
theorem fm_ok : ∀ K, K < 6 → ∀ k, k < 8 → k < plL K → fmB K k = true := by decide +kernel
theorem fm_0 : ∀ K, K < 6 → wq K 0 < fn K ∧ wq K 0 < wz K 0 ∧ wz K 0 ≤ fn K ∧ wz K 0 - wq K 0 = wL K ∧ (∀ j, j < wL K → fx K (wq K 0 + j) = aL (wS K + j)) ∧ ¬ (65 ≤ fx K (wq K 0) ∧ fx K (wq K 0) ≤ 90) ∧ wq K (plL K + 1) = fn K ∧ wz K (plL K + 1) = fn K := by decide +kernel
