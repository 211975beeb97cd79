/-! ===== a park's program: what it gives ===== -/
--need 19.dec
def ev_f (m : Nat) (a b c : Int32) : Nat → Int32 := fun i => if i = 0 then nI (m % 10) else if i = 1 then nI (m / 10) else if i = 2 then a else if i = 3 then b else if i = 4 then c else nI 0
def ev_t (F : Nat → Int32) (c : Nat) : Bool := decide ((if F (c / 100 / 3) < nI (c % 100) then 0 else if F (c / 100 / 3) = nI (c % 100) then 1 else 2) = c / 100 % 3)
def ev (F : Nat → Int32) : List Nat → List Bool → Int32 → Int32
  | [], _, r => r
  | c :: cs, st, r =>
    if c / 100 = 15 then ev F cs ((!(st.headD false)) :: st.drop 1) r
    else if c / 100 = 16 then ev F cs (((st.getD 1 false) && (st.headD false)) :: st.drop 2) r
    else if c / 100 = 17 then ev F cs (((st.getD 1 false) || (st.headD false)) :: st.drop 2) r
    else if c / 100 = 18 then ev F cs [] (r + if st.headD false = true then nI (c % 100) else nI 0)
    else if c / 100 = 19 then ev F cs [] (r - if st.headD false = true then nI (c % 100) else nI 0)
    else ev F cs (ev_t F c :: st) r
/-- the program keeps its stack: k bits lie on it -/
def ev_w : List Nat → Nat → Bool
  | [], _ => true
  | c :: cs, k => decide (c < 2000) && (
    if c / 100 = 15 then decide (1 ≤ k) && ev_w cs k
    else if c / 100 = 16 then decide (2 ≤ k) && ev_w cs (k - 1)
    else if c / 100 = 17 then decide (2 ≤ k) && ev_w cs (k - 1)
    else if c / 100 = 18 then decide (k = 1) && ev_w cs 0
    else if c / 100 = 19 then decide (k = 1) && ev_w cs 0
    else decide (k < 60) && ev_w cs (k + 1))
def ev_a (x : Int32) : Int32 := if x < 0 then nI 0 else x
-- bits
def bt (w : Int64) (st : List Bool) : Prop := ∀ i, i < st.length → w.toBitVec.getLsbD i = st.getD i false
theorem bt_1 : (nI 1).toInt64 &&& 63 = (1 : Int64) := by decide +kernel
theorem bt_one (i : Nat) : (1 : Int64).toBitVec.getLsbD i = decide (i = 0) := by
  by_cases h : i < 64
  · have key : ∀ i : Fin 64, (1 : Int64).toBitVec.getLsbD i = decide ((i : Nat) = 0) := by decide +kernel
    exact key ⟨i, h⟩
  · rw [BitVec.getLsbD_of_ge _ _ (by omega)]
    exact (decide_eq_false (by omega)).symm
theorem bt_m2 (i : Nat) (h : i < 64) : (-2 : Int64).toBitVec.getLsbD i = decide (0 < i) := by
  have key : ∀ i : Fin 64, (-2 : Int64).toBitVec.getLsbD i = decide (0 < (i : Nat)) := by decide +kernel
  exact key ⟨i, h⟩
theorem bt_shr (w : Int64) (i : Nat) (h : i < 63) : (w >>> (1 : Int64)).toBitVec.getLsbD i = w.toBitVec.getLsbD (i + 1) := by
  rw [Int64.toBitVec_shiftRight]
  have e : ((1 : Int64).toBitVec.smod 64) = 1#64 := by decide +kernel
  rw [e]
  simp only [BitVec.sshiftRight', BitVec.getLsbD_sshiftRight]
  have h1 : (1#64).toNat = 1 := rfl
  simp [h1, show ¬ 64 ≤ i by omega, show 1 + i < 64 by omega, Nat.add_comm]
  exact fun hh => absurd hh (by omega)
theorem bt_shl (w : Int64) (i : Nat) (h : i < 63) : (w <<< (1 : Int64)).toBitVec.getLsbD (i + 1) = w.toBitVec.getLsbD i := by
  rw [Int64.toBitVec_shiftLeft]
  have e : ((1 : Int64).toBitVec.smod 64) = 1#64 := by decide +kernel
  rw [e]
  simp [BitVec.getLsbD_shiftLeft, show i + 1 < 64 by omega]
  exact (BitVec.getLsbD_eq_getElem (by omega)).symm
theorem bt_shl0 (w : Int64) : (w <<< (1 : Int64)).toBitVec.getLsbD 0 = false := by
  rw [Int64.toBitVec_shiftLeft]
  have e : ((1 : Int64).toBitVec.smod 64) = 1#64 := by decide +kernel
  rw [e]
  simp [BitVec.getLsbD_shiftLeft]
theorem bt_not {w : Int64} {st : List Bool} (h : bt w st) (h1 : 1 ≤ st.length) : bt (w ^^^ 1) ((!(st.headD false)) :: st.drop 1) := by
  intro i hi
  rw [Int64.toBitVec_xor, BitVec.getLsbD_xor, bt_one]
  cases st with
  | nil => simp at h1
  | cons b t =>
    cases i with
    | zero => have := h 0 (by simp); simp at this; simp [this]
    | succ n => have := h (n + 1) (by simpa using hi); simp at this; simp [this]
theorem bt_and {w : Int64} {st : List Bool} (h : bt w st) (h2 : 2 ≤ st.length) (h6 : st.length ≤ 60) : bt ((w >>> ((nI 1).toInt64 &&& 63)) &&& (w ||| -2)) (((st.getD 1 false) && (st.headD false)) :: st.drop 2) := by
  rw [bt_1]
  intro i hi
  have hl : i < 63 := by simp at hi; omega
  rw [Int64.toBitVec_and, BitVec.getLsbD_and, Int64.toBitVec_or, BitVec.getLsbD_or, bt_m2 i (by omega), bt_shr w i hl]
  match st, h2 with
  | b :: a :: t, _ =>
    cases i with
    | zero => have e0 := h 0 (by simp); have e1 := h 1 (by simp); simp at e0 e1; simp [e0, e1]
    | succ n => have := h (n + 2) (by simpa using hi); simp at this; simp [this]
theorem bt_or {w : Int64} {st : List Bool} (h : bt w st) (h2 : 2 ≤ st.length) (h6 : st.length ≤ 60) : bt ((w >>> ((nI 1).toInt64 &&& 63)) ||| (w &&& 1)) (((st.getD 1 false) || (st.headD false)) :: st.drop 2) := by
  rw [bt_1]
  intro i hi
  have hl : i < 63 := by simp at hi; omega
  rw [Int64.toBitVec_or, BitVec.getLsbD_or, Int64.toBitVec_and, BitVec.getLsbD_and, bt_one, bt_shr w i hl]
  match st, h2 with
  | b :: a :: t, _ =>
    cases i with
    | zero => have e0 := h 0 (by simp); have e1 := h 1 (by simp); simp at e0 e1; simp [e0, e1]
    | succ n => have := h (n + 2) (by simpa using hi); simp at this; simp [this]
theorem bt_push1 {w : Int64} {st : List Bool} (h : bt w st) (h6 : st.length < 60) : bt ((w <<< ((nI 1).toInt64 &&& 63)) ||| (nI 1).toInt64) (true :: st) := by
  rw [bt_1]
  intro i hi
  rw [Int64.toBitVec_or, BitVec.getLsbD_or, show (nI 1).toInt64 = 1 by decide +kernel, bt_one]
  cases i with
  | zero => simp
  | succ n =>
    rw [bt_shl w n (by simp at hi; omega)]
    have := h n (by simpa using hi); simp at this; simp [this]
theorem bt_push0 {w : Int64} {st : List Bool} (h : bt w st) (h6 : st.length < 60) : bt ((w <<< ((nI 1).toInt64 &&& 63)) ||| (nI 0).toInt64) (false :: st) := by
  rw [bt_1]
  intro i hi
  rw [Int64.toBitVec_or, BitVec.getLsbD_or, show (nI 0).toInt64 = 0 by decide +kernel]
  cases i with
  | zero => rw [bt_shl0]; simp
  | succ n =>
    rw [bt_shl w n (by simp at hi; omega)]
    have := h n (by simpa using hi); simp at this; simp [this]
theorem bt_top {w : Int64} {st : List Bool} (h : bt w st) (h1 : 1 ≤ st.length) : (lg_cmp (w &&& 1) 1 = 0) = (st.headD false = true) := by
  have e : w.toBitVec.getLsbD 0 = st.headD false := by
    cases st with
    | nil => simp at h1
    | cons b t => have := h 0 (by simp); simpa using this
  have e1 : (w &&& 1 = 1) ↔ w.toBitVec.getLsbD 0 = true := by
    constructor
    · intro hw
      have := congrArg (fun z : Int64 => z.toBitVec.getLsbD 0) hw
      simpa [Int64.toBitVec_and, bt_one] using this
    · intro hw
      apply Int64.toBitVec_inj.mp
      apply BitVec.eq_of_getLsbD_eq
      intro i hi
      rw [Int64.toBitVec_and, BitVec.getLsbD_and, bt_one]
      by_cases h0 : i = 0
      · subst h0; simp [hw]
      · simp [h0]
  rw [← e]
  apply propext
  rw [← e1]
  unfold lg_cmp
  constructor
  · intro hq
    split at hq
    · exact absurd hq (by decide)
    · split at hq
      · assumption
      · exact absurd hq (by decide)
  · intro hq
    rw [hq]
    decide +kernel
