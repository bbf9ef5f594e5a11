/-! the parts of all codes are what unbeaten counts -/
def mis (hh : Int32) : Nat → (Nat → Int32) → Nat → (Nat → Int32) × Nat
  | 0, k, W => (k, W)
  | c + 1, k, W => mis hh c (kMiss k) (W / 10 * (10 - pN k hh 0))
def pf (n : Nat) (t : Nat → Nat → Int32) (num : Nat) (b : Int32) : Nat → Nat → (Nat → Int32) → Bool → Nat → Nat → Nat
  | 0, _, k, _, W, _ => if allT (nobP t num k) n = true then W else 0
  | j + 1, i, k, out, W, code => if out = true then (if code / 4 ^ j % 4 = 0 then pf n t num b j (i + 1) k true W code else 0) else if code / 4 ^ j % 4 < 3 then (if 2 < (k 3).toNatClampNeg + code / 4 ^ j % 4 then 0 else pf n t num b j (i + 1) (kUp (kOver (mis (b + nI i) (code / 4 ^ j % 4) k W).1 (b + nI i))) false ((mis (b + nI i) (code / 4 ^ j % 4) k W).2 / 10 * pN (mis (b + nI i) (code / 4 ^ j % 4) k W).1 (b + nI i) 0) code) else pf n t num b j (i + 1) (mis (b + nI i) (3 - (k 3).toNatClampNeg) k W).1 true (mis (b + nI i) (3 - (k 3).toNatClampNeg) k W).2 code
def pfB (n : Nat) (t : Nat → Nat → Int32) (num : Nat) (b : Int32) (j i : Nat) (k : Nat → Int32) (out : Bool) (W c s : Nat) : Nat := if out = true then (if c = 0 then pf n t num b j (i + 1) k true W s else 0) else if c < 3 then (if 2 < (k 3).toNatClampNeg + c then 0 else pf n t num b j (i + 1) (kUp (kOver (mis (b + nI i) c k W).1 (b + nI i))) false ((mis (b + nI i) c k W).2 / 10 * pN (mis (b + nI i) c k W).1 (b + nI i) 0) s) else pf n t num b j (i + 1) (mis (b + nI i) (3 - (k 3).toNatClampNeg) k W).1 true (mis (b + nI i) (3 - (k 3).toNatClampNeg) k W).2 s
theorem pf_B (n : Nat) (t : Nat → Nat → Int32) (num : Nat) (b : Int32) (j i : Nat) (k : Nat → Int32) (out : Bool) (W code : Nat) : pf n t num b (j + 1) i k out W code = pfB n t num b j i k out W (code / 4 ^ j % 4) code := rfl
theorem pf_mod (n : Nat) (t : Nat → Nat → Int32) (num : Nat) (b : Int32) : ∀ (j i : Nat) (k : Nat → Int32) (out : Bool) (W code x : Nat), pf n t num b j i k out W (code + 4 ^ j * x) = pf n t num b j i k out W code
  | 0, i, k, out, W, code, x => rfl
  | j + 1, i, k, out, W, code, x => by
    have e1 : code + 4 ^ (j + 1) * x = code + 4 ^ j * (4 * x) := by rw [Nat.pow_succ, Nat.mul_assoc]
    have e2 : (code + 4 ^ j * (4 * x)) / 4 ^ j % 4 = code / 4 ^ j % 4 := by
      rw [Nat.add_mul_div_left _ _ (Nat.pow_pos (by decide)), Nat.add_mul_mod_self_left]
    rw [pf_B, pf_B, e1, e2]
    unfold pfB
    rw [pf_mod n t num b j, pf_mod n t num b j, pf_mod n t num b j]
def sm (f : Nat → Nat) : Nat → Nat
  | 0 => 0
  | c + 1 => sm f c + f c
theorem sm_add (f : Nat → Nat) (M : Nat) : ∀ N, sm f (M + N) = sm f M + sm (fun s => f (M + s)) N
  | 0 => rfl
  | N + 1 => by rw [← Nat.add_assoc, sm, sm_add f M N, sm, Nat.add_assoc]
theorem sm_congr {f g : Nat → Nat} : ∀ N, (∀ s, s < N → f s = g s) → sm f N = sm g N
  | 0, _ => rfl
  | N + 1, h => by rw [sm, sm, sm_congr N (fun s hs => h s (by omega)), h N (by omega)]
theorem sm_0 : ∀ N, sm (fun _ => 0) N = 0
  | 0 => rfl
  | N + 1 => by rw [sm, sm_0 N]
theorem sm_pf (n : Nat) (t : Nat → Nat → Int32) (num : Nat) (b : Int32) (j i : Nat) (k : Nat → Int32) (out : Bool) (W : Nat) : sm (pf n t num b (j + 1) i k out W) (4 ^ (j + 1)) = sm (pfB n t num b j i k out W 0) (4 ^ j) + sm (pfB n t num b j i k out W 1) (4 ^ j) + sm (pfB n t num b j i k out W 2) (4 ^ j) + sm (pfB n t num b j i k out W 3) (4 ^ j) := by
  have key : ∀ c, c < 4 → sm (fun s => pf n t num b (j + 1) i k out W (4 ^ j * c + s)) (4 ^ j) = sm (pfB n t num b j i k out W c) (4 ^ j) := by
    intro c hc
    refine sm_congr _ (fun s hs => ?_)
    have e2 : (4 ^ j * c + s) / 4 ^ j % 4 = c := by
      rw [Nat.mul_add_div (Nat.pow_pos (by decide)), Nat.div_eq_of_lt hs, Nat.add_zero, Nat.mod_eq_of_lt hc]
    rw [pf_B, e2, Nat.add_comm]
    unfold pfB
    rw [pf_mod n t num b j, pf_mod n t num b j, pf_mod n t num b j]
  have k0 := key 0 (by omega)
  have k1 := key 1 (by omega)
  have k2 := key 2 (by omega)
  have k3 := key 3 (by omega)
  rw [show 4 ^ (j + 1) = 4 ^ j * 1 + 4 ^ j + 4 ^ j + 4 ^ j by rw [Nat.pow_succ]; omega, sm_add, sm_add, sm_add]
  rw [show 4 ^ j * 1 + 4 ^ j + 4 ^ j = 4 ^ j * 3 by omega, show 4 ^ j * 1 + 4 ^ j = 4 ^ j * 2 by omega, k1, k2, k3]
  have k0' : sm (pf n t num b (j + 1) i k out W) (4 ^ j * 1) = sm (pfB n t num b j i k out W 0) (4 ^ j) := by
    rw [← k0, Nat.mul_one]
    exact sm_congr _ (fun s _ => by rw [Nat.mul_zero, Nat.zero_add])
  rw [k0']
theorem sm_out (n : Nat) (t : Nat → Nat → Int32) (num : Nat) (b : Int32) : ∀ (j i : Nat) (k : Nat → Int32) (W : Nat), sm (pf n t num b j i k true W) (4 ^ j) = if allT (nobP t num k) n = true then W else 0
  | 0, i, k, W => by rw [Nat.pow_zero, sm, sm, Nat.zero_add]; rfl
  | j + 1, i, k, W => by
    have e0 : sm (pfB n t num b j i k true W 0) (4 ^ j) = if allT (nobP t num k) n = true then W else 0 := sm_out n t num b j (i + 1) k W
    have e1 : sm (pfB n t num b j i k true W 1) (4 ^ j) = 0 := sm_0 _
    have e2 : sm (pfB n t num b j i k true W 2) (4 ^ j) = 0 := sm_0 _
    have e3 : sm (pfB n t num b j i k true W 3) (4 ^ j) = 0 := sm_0 _
    rw [sm_pf, e0, e1, e2, e3]
    simp only [Nat.add_zero]
def gG (n : Nat) (t : Nat → Nat → Int32) (num : Nat) (b : Int32) (j i : Nat) : Nat → (Nat → Int32) → Nat → Nat
  | 0, k, W => if allT (nobP t num k) n = true then W else 0
  | d + 1, k, W => sm (pf n t num b j (i + 1) (kUp (kOver k (b + nI i))) false (W / 10 * pN k (b + nI i) 0)) (4 ^ j) + gG n t num b j i d (kMiss k) (W / 10 * (10 - pN k (b + nI i) 0))
theorem sm_in (n : Nat) (t : Nat → Nat → Int32) (num : Nat) (b : Int32) (j i : Nat) {k : Nat → Int32} (W : Nat) {r : Nat} (hr : k 3 = nI r) (hr2 : r ≤ 2) : sm (pf n t num b (j + 1) i k false W) (4 ^ (j + 1)) = gG n t num b j i (3 - r) k W := by
  have h3 : (k 3).toNatClampNeg = r := by rw [hr, nI_clamp (by omega)]
  have eB : ∀ c, c < 3 → sm (pfB n t num b j i k false W c) (4 ^ j) = if 2 < r + c then 0 else sm (pf n t num b j (i + 1) (kUp (kOver (mis (b + nI i) c k W).1 (b + nI i))) false ((mis (b + nI i) c k W).2 / 10 * pN (mis (b + nI i) c k W).1 (b + nI i) 0)) (4 ^ j) := by
    intro c hc
    unfold pfB
    rw [h3]
    simp only [Bool.false_eq_true, if_false, if_pos hc]
    by_cases g : 2 < r + c
    · simp only [if_pos g]; exact sm_0 _
    · simp only [if_neg g]
  have e3 : sm (pfB n t num b j i k false W 3) (4 ^ j) = if allT (nobP t num (mis (b + nI i) (3 - r) k W).1) n = true then (mis (b + nI i) (3 - r) k W).2 else 0 := by
    rw [← sm_out n t num b j (i + 1)]
    unfold pfB
    rw [h3]
    rfl
  rw [sm_pf, eB 0 (by omega), eB 1 (by omega), eB 2 (by omega), e3]
  match r, hr2 with
  | 0, _ => simp only [gG, mis, Nat.zero_add, Nat.sub_zero, show ¬ (2 : Nat) < 0 by omega, show ¬ (2 : Nat) < 1 by omega, show ¬ (2 : Nat) < 2 by omega, if_false, Nat.add_assoc]
  | 1, _ => simp only [gG, mis, show ¬ (2 : Nat) < 1 + 0 by omega, show ¬ (2 : Nat) < 1 + 1 by omega, show (2 : Nat) < 1 + 2 by omega, if_false, if_true, show 3 - 1 = 2 by omega, Nat.add_zero, Nat.add_assoc]
  | 2, _ => simp only [gG, mis, show ¬ (2 : Nat) < 2 + 0 by omega, show (2 : Nat) < 2 + 1 by omega, show (2 : Nat) < 2 + 2 by omega, if_false, if_true, show 3 - 2 = 1 by omega, Nat.add_zero, Nat.add_assoc]
theorem unb_end (n : Nat) (t : Nat → Nat → Int32) (num m : Nat) (b : Int32) {st q : Nat} {k : Nat → Int32} (h : m ≤ st ∨ k 7 = 3 ∨ 12 ≤ q) : ∀ f, unb n t num m b f st q k = if allT (nobP t num k) n = true then 10 ^ (12 - q) else 0
  | 0 => rfl
  | f + 1 => by rw [unb, if_pos h]
theorem if_mul' (p : Prop) [Decidable p] (w E D Q : Nat) (h : E + D = Q) : (if p then w * 10 ^ E else 0) * 10 ^ D = w * (if p then 10 ^ Q else 0) := by
  by_cases g : p
  · rw [if_pos g, if_pos g, Nat.mul_assoc, pow_up h]
  · rw [if_neg g, if_neg g, Nat.zero_mul, Nat.mul_zero]
theorem sm_unb (n : Nat) (t : Nat → Nat → Int32) (num m : Nat) (b : Int32) : ∀ (j i : Nat) (k : Nat → Int32) (w E q D f r : Nat), i + j = m → k 3 = nI r → r ≤ 2 → ¬ k 7 = 3 → 3 * j - r ≤ E → q + E + D = 12 → 12 - q ≤ f → sm (pf n t num b j i k false (w * 10 ^ E)) (4 ^ j) * 10 ^ D = w * unb n t num m b f i q k
  | 0, i, k, w, E, q, D, f, r, hj, hr, hr2, h7, hE, hD, hf => by
    rw [unb_end n t num m b (Or.inl (by omega)), Nat.pow_zero, sm, sm, Nat.zero_add]
    exact if_mul' _ w E D (12 - q) (by omega)
  | j + 1, i, k, w, E, q, D, f, r, hj, hr, hr2, h7, hE, hD, hf => by
    rw [sm_in n t num b j i _ hr hr2]
    have go : ∀ (d : Nat) (k : Nat → Int32) (w E q f : Nat), d ≤ 3 → k 3 = nI (3 - d) → (d = 0 → k 7 = 3) → (0 < d → ¬ k 7 = 3) → 3 * j + d ≤ E → q + E + D = 12 → 12 - q ≤ f → gG n t num b j i d k (w * 10 ^ E) * 10 ^ D = w * unb n t num m b f i q k := by
      intro d
      induction d with
      | zero =>
        intro k w E q f hd h3 h0 h1 hE hD hf
        rw [unb_end n t num m b (Or.inr (Or.inl (h0 rfl))), gG]
        exact if_mul' _ w E D (12 - q) (by omega)
      | succ d ihd =>
        intro k w E q f hd h3 h0 h1 hE hD hf
        obtain ⟨f, rfl⟩ : ∃ g, f = g + 1 := ⟨f - 1, by omega⟩
        have h7' := h1 (by omega)
        have e10 : w * 10 ^ E / 10 = w * 10 ^ (E - 1) := by
          rw [show 10 ^ E = 10 ^ (E - 1) * 10 by rw [← Nat.pow_succ]; congr 1; omega, ← Nat.mul_assoc, Nat.mul_div_cancel _ (by decide)]
        rw [unb, if_neg (show ¬ (m ≤ i ∨ k 7 = 3 ∨ 12 ≤ q) from fun g => g.elim (by omega) (fun g => g.elim h7' (by omega))), gG, e10]
        generalize hp : pN k (b + nI i) 0 = p
        rw [Nat.mul_right_comm w (10 ^ (E - 1)) p, Nat.mul_right_comm w (10 ^ (E - 1)) (10 - p), Nat.add_mul]
        have e4 : k 3 + 1 = nI (3 - d) := by rw [h3, nI_1]; congr 1; omega
        rw [sm_unb n t num m b j (i + 1) (kUp (kOver k (b + nI i))) (w * p) (E - 1) (q + 1) D f 0 (by omega) rfl (by omega) (by show ¬ (if (1 : Int32) = 3 then (3 : Int32) else 0) = 3; decide) (by omega) (by omega) (by omega)]
        rw [ihd (kMiss k) (w * (10 - p)) (E - 1) (q + 1) f (by omega) e4 (fun hd0 => ?_) (fun hd0 => ?_) (by omega) (by omega) (by omega)]
        · rw [Nat.mul_assoc, Nat.mul_assoc, ← Nat.mul_add]
        · show (if k 3 + 1 < 3 then k 7 else 3) = 3
          rw [e4, if_neg (show ¬ nI (3 - d) < (3 : Int32) from nI_nlt (b := 3) (by omega) (by omega))]
        · show ¬ (if k 3 + 1 < 3 then k 7 else 3) = 3
          rw [e4, if_pos (show nI (3 - d) < (3 : Int32) from nI_lt (b := 3) (by omega) (by omega))]
          exact h7'
    exact go (3 - r) k w E q f (by omega) (by rw [hr]; congr 1; omega) (by omega) (fun _ => h7) (by omega) hD hf
