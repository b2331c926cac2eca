noncomputable section
def f_X10_append_h3 : Nat → Int32 → Int32 → ga_M → Option (ga_M)
  | 0, _, _, _ => none
  | n + 1, l1, l2, s =>
    if l2 < 0 then
      some s
    else
      let s101 : ga_M := ga_pt 47 900 (s 45 1) (((l1).toUInt32 >>> ((l2 : Int32).toUInt32 &&& Int32.toUInt32 31)).toInt32 &&& 255) s
      let s102 : ga_M := ga_up s101 45 1 ((s101 45 1) + 1)
      let v103 : Int32 := l2 + (-8)
      f_X10_append_h3 n l1 v103 s102
def fb_X10_append (a : Int32) (s : ga_M) : Option (ga_M) :=
  f_X10_append_h3 ga_fuel a 24 s
theorem fx_X10_append : ∃ f, f = fb_X10_append := ⟨_, rfl⟩
def f_X10_append : Int32 → ga_M → Option (ga_M) := Classical.choose fx_X10_append
theorem fe_X10_append : f_X10_append = fb_X10_append := Classical.choose_spec fx_X10_append

def fb_X11_appendText (a : Int32) (b : Int32) (c : Int32) (d : Int32) (e : Int32) (s : ga_M) : Option ((Int32 ⊕ Nat) × ga_M) :=
  if ((s 45 1) + 20) ≤ 900 then
    (f_X10_append a s).bind fun s1 =>
    (f_X10_append b s1).bind fun s2 =>
    (f_X10_append c s2).bind fun s3 =>
    (f_X10_append d s3).bind fun s4 =>
    (f_X10_append e s4).bind fun s5 =>
    some (.inl (s5 45 1), s5)
  else
    some (.inr 1, s)
theorem fx_X11_appendText : ∃ f, f = fb_X11_appendText := ⟨_, rfl⟩
def f_X11_appendText : Int32 → Int32 → Int32 → Int32 → Int32 → ga_M → Option ((Int32 ⊕ Nat) × ga_M) := Classical.choose fx_X11_appendText
theorem fe_X11_appendText : f_X11_appendText = fb_X11_appendText := Classical.choose_spec fx_X11_appendText

def fb_X11_truncateText (a : Int32) (s : ga_M) : Option ((Int32 ⊕ Nat) × ga_M) :=
  if a < 0 then
    some (.inr 2, s)
  else
  if a ≤ (s 45 1) then
    let s1 : ga_M := ga_up s 45 1 a
    some (.inl a, s1)
  else
    some (.inr 2, s)
theorem fx_X11_truncateText : ∃ f, f = fb_X11_truncateText := ⟨_, rfl⟩
def f_X11_truncateText : Int32 → ga_M → Option ((Int32 ⊕ Nat) × ga_M) := Classical.choose fx_X11_truncateText
theorem fe_X11_truncateText : f_X11_truncateText = fb_X11_truncateText := Classical.choose_spec fx_X11_truncateText

def fb_X7_becomeEmpty_49 (s : ga_M) : Option (ga_M) :=
  let s1 : ga_M := ga_up s 49 0 0
  let s2 : ga_M := ga_up s1 49 1 0
  let s3 : ga_M := ga_up s2 49 2 0
  let s4 : ga_M := ga_up s3 49 3 0
  let s5 : ga_M := ga_up s4 49 4 0
  let s6 : ga_M := ga_up s5 49 5 0
  let s7 : ga_M := ga_up s6 49 6 0
  some s7
theorem fx_X7_becomeEmpty_49 : ∃ f, f = fb_X7_becomeEmpty_49 := ⟨_, rfl⟩
def f_X7_becomeEmpty_49 : ga_M → Option (ga_M) := Classical.choose fx_X7_becomeEmpty_49
theorem fe_X7_becomeEmpty_49 : f_X7_becomeEmpty_49 = fb_X7_becomeEmpty_49 := Classical.choose_spec fx_X7_becomeEmpty_49
def vb_X7_becomeEmpty_49 (s : ga_M) : ga_M :=
  let s1 : ga_M := ga_up s 49 0 0
  let s2 : ga_M := ga_up s1 49 1 0
  let s3 : ga_M := ga_up s2 49 2 0
  let s4 : ga_M := ga_up s3 49 3 0
  let s5 : ga_M := ga_up s4 49 4 0
  let s6 : ga_M := ga_up s5 49 5 0
  let s7 : ga_M := ga_up s6 49 6 0
  s7
theorem vx_X7_becomeEmpty_49 : ∃ f, f = vb_X7_becomeEmpty_49 := ⟨_, rfl⟩
def v_X7_becomeEmpty_49 : ga_M → ga_M := Classical.choose vx_X7_becomeEmpty_49
theorem ve_X7_becomeEmpty_49 : v_X7_becomeEmpty_49 = vb_X7_becomeEmpty_49 := Classical.choose_spec vx_X7_becomeEmpty_49
theorem e_X7_becomeEmpty_49 (s : ga_M) : f_X7_becomeEmpty_49 s = some (v_X7_becomeEmpty_49 s) := by
  rw [fe_X7_becomeEmpty_49, ve_X7_becomeEmpty_49]
  unfold fb_X7_becomeEmpty_49 vb_X7_becomeEmpty_49
  rfl

def f_X10_afterBlanks_h2 : Nat → Int32 → ga_M → Option (Int32)
  | 0, _, _ => none
  | n + 1, l2, s =>
    if (s 45 1) ≤ l2 then
      some l2
    else
    if (ga_at 47 900 l2 s) = 32 then
      let v101 : Int32 := l2 + 1
      f_X10_afterBlanks_h2 n v101 s
    else
    if (ga_at 47 900 l2 s) = 10 then
      let v102 : Int32 := l2 + 1
      f_X10_afterBlanks_h2 n v102 s
    else
      some l2
def fb_X10_afterBlanks (a : Int32) (s : ga_M) : Option (Int32) :=
  f_X10_afterBlanks_h2 ga_fuel a s
theorem fx_X10_afterBlanks : ∃ f, f = fb_X10_afterBlanks := ⟨_, rfl⟩
def f_X10_afterBlanks : Int32 → ga_M → Option (Int32) := Classical.choose fx_X10_afterBlanks
theorem fe_X10_afterBlanks : f_X10_afterBlanks = fb_X10_afterBlanks := Classical.choose_spec fx_X10_afterBlanks

def fb_X10_isLetter (a : Int32) (s : ga_M) : Option (Int32) :=
  if a < 97 then
    some 0
  else
  if 122 < a then
    some 0
  else
    some 1
theorem fx_X10_isLetter : ∃ f, f = fb_X10_isLetter := ⟨_, rfl⟩
def f_X10_isLetter : Int32 → ga_M → Option (Int32) := Classical.choose fx_X10_isLetter
theorem fe_X10_isLetter : f_X10_isLetter = fb_X10_isLetter := Classical.choose_spec fx_X10_isLetter
def vb_X10_isLetter (a : Int32) (s : ga_M) : Int32 :=
  if a < 97 then
    0
  else
  if 122 < a then
    0
  else
    1
theorem vx_X10_isLetter : ∃ f, f = vb_X10_isLetter := ⟨_, rfl⟩
def v_X10_isLetter : Int32 → ga_M → Int32 := Classical.choose vx_X10_isLetter
theorem ve_X10_isLetter : v_X10_isLetter = vb_X10_isLetter := Classical.choose_spec vx_X10_isLetter
theorem e_X10_isLetter (a : Int32) (s : ga_M) : f_X10_isLetter a s = some (v_X10_isLetter a s) := by
  rw [fe_X10_isLetter, ve_X10_isLetter]
  unfold fb_X10_isLetter vb_X10_isLetter
  (try dsimp only)
  repeat' (first | rfl | split)

def fb_X10_isDigit (a : Int32) (s : ga_M) : Option (Int32) :=
  if a < 48 then
    some 0
  else
  if 57 < a then
    some 0
  else
    some 1
theorem fx_X10_isDigit : ∃ f, f = fb_X10_isDigit := ⟨_, rfl⟩
def f_X10_isDigit : Int32 → ga_M → Option (Int32) := Classical.choose fx_X10_isDigit
theorem fe_X10_isDigit : f_X10_isDigit = fb_X10_isDigit := Classical.choose_spec fx_X10_isDigit
def vb_X10_isDigit (a : Int32) (s : ga_M) : Int32 :=
  if a < 48 then
    0
  else
  if 57 < a then
    0
  else
    1
theorem vx_X10_isDigit : ∃ f, f = vb_X10_isDigit := ⟨_, rfl⟩
def v_X10_isDigit : Int32 → ga_M → Int32 := Classical.choose vx_X10_isDigit
theorem ve_X10_isDigit : v_X10_isDigit = vb_X10_isDigit := Classical.choose_spec vx_X10_isDigit
theorem e_X10_isDigit (a : Int32) (s : ga_M) : f_X10_isDigit a s = some (v_X10_isDigit a s) := by
  rw [fe_X10_isDigit, ve_X10_isDigit]
  unfold fb_X10_isDigit vb_X10_isDigit
  (try dsimp only)
  repeat' (first | rfl | split)

def fb_J9_min_7cf53 (a : Int32) (b : Int32) (s : ga_M) : Option (Int32) :=
  if b < a then
    some b
  else
    some a
theorem fx_J9_min_7cf53 : ∃ f, f = fb_J9_min_7cf53 := ⟨_, rfl⟩
def f_J9_min_7cf53 : Int32 → Int32 → ga_M → Option (Int32) := Classical.choose fx_J9_min_7cf53
theorem fe_J9_min_7cf53 : f_J9_min_7cf53 = fb_J9_min_7cf53 := Classical.choose_spec fx_J9_min_7cf53
def vb_J9_min_7cf53 (a : Int32) (b : Int32) (s : ga_M) : Int32 :=
  if b < a then
    b
  else
    a
theorem vx_J9_min_7cf53 : ∃ f, f = vb_J9_min_7cf53 := ⟨_, rfl⟩
def v_J9_min_7cf53 : Int32 → Int32 → ga_M → Int32 := Classical.choose vx_J9_min_7cf53
theorem ve_J9_min_7cf53 : v_J9_min_7cf53 = vb_J9_min_7cf53 := Classical.choose_spec vx_J9_min_7cf53
theorem e_J9_min_7cf53 (a : Int32) (b : Int32) (s : ga_M) : f_J9_min_7cf53 a b s = some (v_J9_min_7cf53 a b s) := by
  rw [fe_J9_min_7cf53, ve_J9_min_7cf53]
  unfold fb_J9_min_7cf53 vb_J9_min_7cf53
  (try dsimp only)
  repeat' (first | rfl | split)

def f_X10_afterDigits_h7 : Nat → Int32 → ga_M → Option (Int32 × ga_M)
  | 0, _, _ => none
  | n + 1, l2, s =>
    if (s 45 1) ≤ l2 then
      some (l2, s)
    else
    if (v_X10_isDigit (ga_at 47 900 l2 s) s) = 0 then
      some (l2, s)
    else
      let s101 : ga_M := ga_up s 45 5 (v_J9_min_7cf53 ((((s 45 5) * 10) + (ga_at 47 900 l2 s)) - 48) 1000000 s)
      let v102 : Int32 := l2 + 1
      f_X10_afterDigits_h7 n v102 s101
def fb_X10_afterDigits (a : Int32) (s : ga_M) : Option (Int32 × ga_M) :=
  let s1 : ga_M := ga_up s 45 5 0
  f_X10_afterDigits_h7 ga_fuel a s1
theorem fx_X10_afterDigits : ∃ f, f = fb_X10_afterDigits := ⟨_, rfl⟩
def f_X10_afterDigits : Int32 → ga_M → Option (Int32 × ga_M) := Classical.choose fx_X10_afterDigits
theorem fe_X10_afterDigits : f_X10_afterDigits = fb_X10_afterDigits := Classical.choose_spec fx_X10_afterDigits

def f_X10_afterLetters_h2 : Nat → Int32 → ga_M → Option (Int32)
  | 0, _, _ => none
  | n + 1, l2, s =>
    if (s 45 1) ≤ l2 then
      some l2
    else
    if (v_X10_isLetter (ga_at 47 900 l2 s) s) = 0 then
      some l2
    else
      let v101 : Int32 := l2 + 1
      f_X10_afterLetters_h2 n v101 s
def fb_X10_afterLetters (a : Int32) (s : ga_M) : Option (Int32) :=
  f_X10_afterLetters_h2 ga_fuel a s
theorem fx_X10_afterLetters : ∃ f, f = fb_X10_afterLetters := ⟨_, rfl⟩
def f_X10_afterLetters : Int32 → ga_M → Option (Int32) := Classical.choose fx_X10_afterLetters
theorem fe_X10_afterLetters : f_X10_afterLetters = fb_X10_afterLetters := Classical.choose_spec fx_X10_afterLetters

def fb_X10_next (s : ga_M) : Option (ga_M) :=
  (f_X10_afterBlanks (s 45 4) s).bind fun x1 =>
  let s2 : ga_M := ga_up s 45 3 x1
  let s3 : ga_M := ga_up s2 45 4 ((s2 45 3) + 1)
  let v4 : Int32 := (ga_at 47 900 (s3 45 3) s3)
  if (s3 45 3) < (s3 45 1) then
    if (v_X10_isLetter v4 s3) = 0 then
      if (v_X10_isDigit v4 s3) = 0 then
        if v4 = 59 then
          let s6 : ga_M := ga_up s3 45 2 3
          some s6
        else
          let s5 : ga_M := ga_up s3 45 2 4
          some s5
      else
        let s7 : ga_M := ga_up s3 45 2 2
        (f_X10_afterDigits (s7 45 3) s7).bind fun q8 =>
        let s9 : ga_M := ga_up q8.2 45 4 (q8.1)
        some s9
    else
      let s10 : ga_M := ga_up s3 45 2 1
      (f_X10_afterLetters (s10 45 3) s10).bind fun x11 =>
      let s12 : ga_M := ga_up s10 45 4 x11
      some s12
  else
    let s13 : ga_M := ga_up s3 45 2 0
    let s14 : ga_M := ga_up s13 45 4 (s13 45 1)
    some s14
theorem fx_X10_next : ∃ f, f = fb_X10_next := ⟨_, rfl⟩
def f_X10_next : ga_M → Option (ga_M) := Classical.choose fx_X10_next
theorem fe_X10_next : f_X10_next = fb_X10_next := Classical.choose_spec fx_X10_next

def fb_X10_begin (s : ga_M) : Option (ga_M) :=
  let s1 : ga_M := ga_up s 45 6 0
  let s2 : ga_M := ga_up s1 45 7 (-1)
  let s3 : ga_M := ga_up s2 45 4 0
  (f_X10_next s3).bind fun s4 =>
  some s4
theorem fx_X10_begin : ∃ f, f = fb_X10_begin := ⟨_, rfl⟩
def f_X10_begin : ga_M → Option (ga_M) := Classical.choose fx_X10_begin
theorem fe_X10_begin : f_X10_begin = fb_X10_begin := Classical.choose_spec fx_X10_begin

def f_X10_isWord_h28 : Nat → Nat → Int32 → ga_M → Option (Int32)
  | 0, _, _, _ => none
  | n + 1, l1, l2, s =>
    (ga_sl l1 s).bind fun x101 =>
    if x101 ≤ l2 then
      some 1
    else
      (ga_sc l1 l2 s).bind fun x102 =>
      if (ga_at 47 900 ((s 45 3) + l2) s) = x102 then
        let v103 : Int32 := l2 + 1
        f_X10_isWord_h28 n l1 v103 s
      else
        some 0
def fb_X10_isWord (a : Nat) (s : ga_M) : Option (Int32) :=
  if (s 45 2) = 1 then
    (ga_sl a s).bind fun x1 =>
    if ((s 45 4) - (s 45 3)) = x1 then
      f_X10_isWord_h28 ga_fuel a 0 s
    else
      some 0
  else
    some 0
theorem fx_X10_isWord : ∃ f, f = fb_X10_isWord := ⟨_, rfl⟩
def f_X10_isWord : Nat → ga_M → Option (Int32) := Classical.choose fx_X10_isWord
theorem fe_X10_isWord : f_X10_isWord = fb_X10_isWord := Classical.choose_spec fx_X10_isWord

def fb_X10_fail (a : Int32) (b : Int32) (s : ga_M) : Option (Int32 × ga_M) :=
  let s1 : ga_M := ga_up s 45 6 a
  let s2 : ga_M := ga_up s1 45 7 b
  some (0, s2)
theorem fx_X10_fail : ∃ f, f = fb_X10_fail := ⟨_, rfl⟩
def f_X10_fail : Int32 → Int32 → ga_M → Option (Int32 × ga_M) := Classical.choose fx_X10_fail
theorem fe_X10_fail : f_X10_fail = fb_X10_fail := Classical.choose_spec fx_X10_fail
def vb_X10_fail (a : Int32) (b : Int32) (s : ga_M) : Int32 × ga_M :=
  let s1 : ga_M := ga_up s 45 6 a
  let s2 : ga_M := ga_up s1 45 7 b
  (0, s2)
theorem vx_X10_fail : ∃ f, f = vb_X10_fail := ⟨_, rfl⟩
def v_X10_fail : Int32 → Int32 → ga_M → Int32 × ga_M := Classical.choose vx_X10_fail
theorem ve_X10_fail : v_X10_fail = vb_X10_fail := Classical.choose_spec vx_X10_fail
theorem e_X10_fail (a : Int32) (b : Int32) (s : ga_M) : f_X10_fail a b s = some (v_X10_fail a b s) := by
  rw [fe_X10_fail, ve_X10_fail]
  unfold fb_X10_fail vb_X10_fail
  rfl

def fb_X8_fail (a : Int32) (s : ga_M) : Option (Int32 × ga_M) :=
  let q1 : Int32 × ga_M := v_X10_fail a (s 45 3) s
  some (q1.1, q1.2)
theorem fx_X8_fail : ∃ f, f = fb_X8_fail := ⟨_, rfl⟩
def f_X8_fail : Int32 → ga_M → Option (Int32 × ga_M) := Classical.choose fx_X8_fail
theorem fe_X8_fail : f_X8_fail = fb_X8_fail := Classical.choose_spec fx_X8_fail
def vb_X8_fail (a : Int32) (s : ga_M) : Int32 × ga_M :=
  let q1 : Int32 × ga_M := v_X10_fail a (s 45 3) s
  (q1.1, q1.2)
theorem vx_X8_fail : ∃ f, f = vb_X8_fail := ⟨_, rfl⟩
def v_X8_fail : Int32 → ga_M → Int32 × ga_M := Classical.choose vx_X8_fail
theorem ve_X8_fail : v_X8_fail = vb_X8_fail := Classical.choose_spec vx_X8_fail
theorem e_X8_fail (a : Int32) (s : ga_M) : f_X8_fail a s = some (v_X8_fail a s) := by
  rw [fe_X8_fail, ve_X8_fail]
  unfold fb_X8_fail vb_X8_fail
  rfl

def fb_X8_takeWord (a : Nat) (s : ga_M) : Option (Int32 × ga_M) :=
  (f_X10_isWord a s).bind fun x1 =>
  if x1 = 0 then
    let q3 : Int32 × ga_M := v_X8_fail 1 s
    some (q3.1, q3.2)
  else
    (f_X10_next s).bind fun s2 =>
    some (1, s2)
theorem fx_X8_takeWord : ∃ f, f = fb_X8_takeWord := ⟨_, rfl⟩
def f_X8_takeWord : Nat → ga_M → Option (Int32 × ga_M) := Classical.choose fx_X8_takeWord
theorem fe_X8_takeWord : f_X8_takeWord = fb_X8_takeWord := Classical.choose_spec fx_X8_takeWord

def fb_X8_checkNumber (a : Int32) (b : Int32) (s : ga_M) : Option (Int32 × ga_M) :=
  if (s 45 2) = 2 then
    if (s 45 5) < a then
      let q1 : Int32 × ga_M := v_X8_fail 2 s
      if q1.1 = 0 then
        some (0, q1.2)
      else
        some (1, q1.2)
    else
    if (s 45 5) ≤ b then
      some (1, s)
    else
      let q2 : Int32 × ga_M := v_X8_fail 2 s
      if q2.1 = 0 then
        some (0, q2.2)
      else
        some (1, q2.2)
  else
    let q3 : Int32 × ga_M := v_X8_fail 1 s
    some (q3.1, q3.2)
theorem fx_X8_checkNumber : ∃ f, f = fb_X8_checkNumber := ⟨_, rfl⟩
def f_X8_checkNumber : Int32 → Int32 → ga_M → Option (Int32 × ga_M) := Classical.choose fx_X8_checkNumber
theorem fe_X8_checkNumber : f_X8_checkNumber = fb_X8_checkNumber := Classical.choose_spec fx_X8_checkNumber
def vb_X8_checkNumber (a : Int32) (b : Int32) (s : ga_M) : Int32 × ga_M :=
  if (s 45 2) = 2 then
    if (s 45 5) < a then
      let q1 : Int32 × ga_M := v_X8_fail 2 s
      if q1.1 = 0 then
        (0, q1.2)
      else
        (1, q1.2)
    else
    if (s 45 5) ≤ b then
      (1, s)
    else
      let q2 : Int32 × ga_M := v_X8_fail 2 s
      if q2.1 = 0 then
        (0, q2.2)
      else
        (1, q2.2)
  else
    let q3 : Int32 × ga_M := v_X8_fail 1 s
    (q3.1, q3.2)
theorem vx_X8_checkNumber : ∃ f, f = vb_X8_checkNumber := ⟨_, rfl⟩
def v_X8_checkNumber : Int32 → Int32 → ga_M → Int32 × ga_M := Classical.choose vx_X8_checkNumber
theorem ve_X8_checkNumber : v_X8_checkNumber = vb_X8_checkNumber := Classical.choose_spec vx_X8_checkNumber
theorem e_X8_checkNumber (a : Int32) (b : Int32) (s : ga_M) : f_X8_checkNumber a b s = some (v_X8_checkNumber a b s) := by
  rw [fe_X8_checkNumber, ve_X8_checkNumber]
  unfold fb_X8_checkNumber vb_X8_checkNumber
  (try dsimp only)
  repeat' (first | rfl | split)

def fb_X8_takeNumber (s : ga_M) : Option (Int32 × ga_M) :=
  let v1 : Int32 := (s 45 5)
  (f_X10_next s).bind fun s2 =>
  some (v1, s2)
theorem fx_X8_takeNumber : ∃ f, f = fb_X8_takeNumber := ⟨_, rfl⟩
def f_X8_takeNumber : ga_M → Option (Int32 × ga_M) := Classical.choose fx_X8_takeNumber
theorem fe_X8_takeNumber : f_X8_takeNumber = fb_X8_takeNumber := Classical.choose_spec fx_X8_takeNumber

def fb_X8_takeSemicolon (s : ga_M) : Option (Int32 × ga_M) :=
  if (s 45 2) = 3 then
    (f_X10_next s).bind fun s1 =>
    some (1, s1)
  else
    let q2 : Int32 × ga_M := v_X8_fail 1 s
    some (q2.1, q2.2)
theorem fx_X8_takeSemicolon : ∃ f, f = fb_X8_takeSemicolon := ⟨_, rfl⟩
def f_X8_takeSemicolon : ga_M → Option (Int32 × ga_M) := Classical.choose fx_X8_takeSemicolon
theorem fe_X8_takeSemicolon : f_X8_takeSemicolon = fb_X8_takeSemicolon := Classical.choose_spec fx_X8_takeSemicolon

def fb_X8_readGrid (s : ga_M) : Option (Int32 × ga_M) :=
  (f_X8_takeWord 1000 s).bind fun q1 =>
  if q1.1 = 0 then
    some (0, q1.2)
  else
    let q2 : Int32 × ga_M := v_X8_checkNumber 1 5 q1.2
    if q2.1 = 0 then
      some (0, q2.2)
    else
      (f_X8_takeNumber q2.2).bind fun q3 =>
      let s4 : ga_M := ga_up q3.2 49 0 (q3.1)
      let q5 : Int32 × ga_M := v_X8_checkNumber 1 6 s4
      if q5.1 = 0 then
        some (0, q5.2)
      else
        (f_X8_takeNumber q5.2).bind fun q6 =>
        let s7 : ga_M := ga_up q6.2 49 1 (q6.1)
        (f_X8_takeSemicolon s7).bind fun q8 =>
        some (q8.1, q8.2)
theorem fx_X8_readGrid : ∃ f, f = fb_X8_readGrid := ⟨_, rfl⟩
def f_X8_readGrid : ga_M → Option (Int32 × ga_M) := Classical.choose fx_X8_readGrid
theorem fe_X8_readGrid : f_X8_readGrid = fb_X8_readGrid := Classical.choose_spec fx_X8_readGrid

def fb_X7_addSubject_49 (a : Int32) (s : ga_M) : Option (ga_M) :=
  let s1 : ga_M := ga_pt 51 6 (s 49 2) a s
  let s2 : ga_M := ga_up s1 49 2 ((s1 49 2) + 1)
  some s2
theorem fx_X7_addSubject_49 : ∃ f, f = fb_X7_addSubject_49 := ⟨_, rfl⟩
def f_X7_addSubject_49 : Int32 → ga_M → Option (ga_M) := Classical.choose fx_X7_addSubject_49
theorem fe_X7_addSubject_49 : f_X7_addSubject_49 = fb_X7_addSubject_49 := Classical.choose_spec fx_X7_addSubject_49
def vb_X7_addSubject_49 (a : Int32) (s : ga_M) : ga_M :=
  let s1 : ga_M := ga_pt 51 6 (s 49 2) a s
  let s2 : ga_M := ga_up s1 49 2 ((s1 49 2) + 1)
  s2
theorem vx_X7_addSubject_49 : ∃ f, f = vb_X7_addSubject_49 := ⟨_, rfl⟩
def v_X7_addSubject_49 : Int32 → ga_M → ga_M := Classical.choose vx_X7_addSubject_49
theorem ve_X7_addSubject_49 : v_X7_addSubject_49 = vb_X7_addSubject_49 := Classical.choose_spec vx_X7_addSubject_49
theorem e_X7_addSubject_49 (a : Int32) (s : ga_M) : f_X7_addSubject_49 a s = some (v_X7_addSubject_49 a s) := by
  rw [fe_X7_addSubject_49, ve_X7_addSubject_49]
  unfold fb_X7_addSubject_49 vb_X7_addSubject_49
  rfl

def f_X8_readSubjects_h2 : Nat → Int32 → ga_M → Option (Int32 × ga_M)
  | 0, _, _ => none
  | n + 1, l1, s =>
    if 6 < l1 then
      some (1, s)
    else
    if l1 = 0 then
      if l1 = 6 then
        let q107 : Int32 × ga_M := v_X8_fail 5 s
        some (q107.1, q107.2)
      else
        (f_X8_takeWord 1001 s).bind fun q101 =>
        if q101.1 = 0 then
          some (0, q101.2)
        else
          let q102 : Int32 × ga_M := v_X8_checkNumber 0 3 q101.2
          if q102.1 = 0 then
            some (0, q102.2)
          else
            (f_X8_takeNumber q102.2).bind fun q103 =>
            let s104 : ga_M := v_X7_addSubject_49 (q103.1) q103.2
            (f_X8_takeSemicolon s104).bind fun q105 =>
            if q105.1 = 0 then
              some (0, q105.2)
            else
              let v106 : Int32 := l1 + 1
              f_X8_readSubjects_h2 n v106 q105.2
    else
      (f_X10_isWord 1001 s).bind fun x108 =>
      if x108 = 0 then
        some (1, s)
      else
      if l1 = 6 then
        let q115 : Int32 × ga_M := v_X8_fail 5 s
        some (q115.1, q115.2)
      else
        (f_X8_takeWord 1001 s).bind fun q109 =>
        if q109.1 = 0 then
          some (0, q109.2)
        else
          let q110 : Int32 × ga_M := v_X8_checkNumber 0 3 q109.2
          if q110.1 = 0 then
            some (0, q110.2)
          else
            (f_X8_takeNumber q110.2).bind fun q111 =>
            let s112 : ga_M := v_X7_addSubject_49 (q111.1) q111.2
            (f_X8_takeSemicolon s112).bind fun q113 =>
            if q113.1 = 0 then
              some (0, q113.2)
            else
              let v114 : Int32 := l1 + 1
              f_X8_readSubjects_h2 n v114 q113.2
def fb_X8_readSubjects (s : ga_M) : Option (Int32 × ga_M) :=
  f_X8_readSubjects_h2 ga_fuel 0 s
theorem fx_X8_readSubjects : ∃ f, f = fb_X8_readSubjects := ⟨_, rfl⟩
def f_X8_readSubjects : ga_M → Option (Int32 × ga_M) := Classical.choose fx_X8_readSubjects
theorem fe_X8_readSubjects : f_X8_readSubjects = fb_X8_readSubjects := Classical.choose_spec fx_X8_readSubjects

def fb_X7_addTeacher_49 (a : Int32) (b : Int32) (s : ga_M) : Option (ga_M) :=
  let s1 : ga_M := ga_pt 53 8 (s 49 3) a s
  let s2 : ga_M := ga_pt 55 8 (s1 49 3) b s1
  let s3 : ga_M := ga_up s2 49 3 ((s2 49 3) + 1)
  some s3
theorem fx_X7_addTeacher_49 : ∃ f, f = fb_X7_addTeacher_49 := ⟨_, rfl⟩
def f_X7_addTeacher_49 : Int32 → Int32 → ga_M → Option (ga_M) := Classical.choose fx_X7_addTeacher_49
theorem fe_X7_addTeacher_49 : f_X7_addTeacher_49 = fb_X7_addTeacher_49 := Classical.choose_spec fx_X7_addTeacher_49
def vb_X7_addTeacher_49 (a : Int32) (b : Int32) (s : ga_M) : ga_M :=
  let s1 : ga_M := ga_pt 53 8 (s 49 3) a s
  let s2 : ga_M := ga_pt 55 8 (s1 49 3) b s1
  let s3 : ga_M := ga_up s2 49 3 ((s2 49 3) + 1)
  s3
theorem vx_X7_addTeacher_49 : ∃ f, f = vb_X7_addTeacher_49 := ⟨_, rfl⟩
def v_X7_addTeacher_49 : Int32 → Int32 → ga_M → ga_M := Classical.choose vx_X7_addTeacher_49
theorem ve_X7_addTeacher_49 : v_X7_addTeacher_49 = vb_X7_addTeacher_49 := Classical.choose_spec vx_X7_addTeacher_49
theorem e_X7_addTeacher_49 (a : Int32) (b : Int32) (s : ga_M) : f_X7_addTeacher_49 a b s = some (v_X7_addTeacher_49 a b s) := by
  rw [fe_X7_addTeacher_49, ve_X7_addTeacher_49]
  unfold fb_X7_addTeacher_49 vb_X7_addTeacher_49
  rfl

def fb_X11_hasBit (a : Int32) (b : Int32) (s : ga_M) : Option (Int32) :=
  if b < 0 then
    some 0
  else
  if 31 ≤ b then
    some 0
  else
  if ((a >>> (b &&& 31)) &&& 1) = 1 then
    some 1
  else
    some 0
theorem fx_X11_hasBit : ∃ f, f = fb_X11_hasBit := ⟨_, rfl⟩
def f_X11_hasBit : Int32 → Int32 → ga_M → Option (Int32) := Classical.choose fx_X11_hasBit
theorem fe_X11_hasBit : f_X11_hasBit = fb_X11_hasBit := Classical.choose_spec fx_X11_hasBit
def vb_X11_hasBit (a : Int32) (b : Int32) (s : ga_M) : Int32 :=
  if b < 0 then
    0
  else
  if 31 ≤ b then
    0
  else
  if ((a >>> (b &&& 31)) &&& 1) = 1 then
    1
  else
    0
theorem vx_X11_hasBit : ∃ f, f = vb_X11_hasBit := ⟨_, rfl⟩
def v_X11_hasBit : Int32 → Int32 → ga_M → Int32 := Classical.choose vx_X11_hasBit
theorem ve_X11_hasBit : v_X11_hasBit = vb_X11_hasBit := Classical.choose_spec vx_X11_hasBit
theorem e_X11_hasBit (a : Int32) (b : Int32) (s : ga_M) : f_X11_hasBit a b s = some (v_X11_hasBit a b s) := by
  rw [fe_X11_hasBit, ve_X11_hasBit]
  unfold fb_X11_hasBit vb_X11_hasBit
  (try dsimp only)
  repeat' (first | rfl | split)

def f_X8_readTeacher_h21 : Nat → Int32 → Int32 → Int32 → ga_M → Option (Int32 × ga_M)
  | 0, _, _, _, _ => none
  | n + 1, l1, l2, l3, s =>
    if 6 < l3 then
      let s101 : ga_M := v_X7_addTeacher_49 l1 l2 s
      (f_X8_takeSemicolon s101).bind fun q102 =>
      some (q102.1, q102.2)
    else
    if l3 = 0 then
      let q103 : Int32 × ga_M := v_X8_checkNumber 0 ((s 49 2) - 1) s
      if q103.1 = 0 then
        some (0, q103.2)
      else
      if (v_X11_hasBit l2 (q103.2 45 5) q103.2) = 0 then
        (f_X8_takeNumber q103.2).bind fun q104 =>
        let v105 : Int32 := (l2 ||| (1 <<< (q104.1 &&& 31)))
        let v106 : Int32 := l3 + 1
        f_X8_readTeacher_h21 n l1 v105 v106 q104.2
      else
        let q107 : Int32 × ga_M := v_X8_fail 3 q103.2
        some (q107.1, q107.2)
    else
    if (s 45 2) = 2 then
      let q110 : Int32 × ga_M := v_X8_checkNumber 0 ((s 49 2) - 1) s
      if q110.1 = 0 then
        some (0, q110.2)
      else
      if (v_X11_hasBit l2 (q110.2 45 5) q110.2) = 0 then
        (f_X8_takeNumber q110.2).bind fun q111 =>
        let v112 : Int32 := (l2 ||| (1 <<< (q111.1 &&& 31)))
        let v113 : Int32 := l3 + 1
        f_X8_readTeacher_h21 n l1 v112 v113 q111.2
      else
        let q114 : Int32 × ga_M := v_X8_fail 3 q110.2
        some (q114.1, q114.2)
    else
      let s108 : ga_M := v_X7_addTeacher_49 l1 l2 s
      (f_X8_takeSemicolon s108).bind fun q109 =>
      some (q109.1, q109.2)
def fb_X8_readTeacher (s : ga_M) : Option (Int32 × ga_M) :=
  let q1 : Int32 × ga_M := v_X8_checkNumber 0 9 s
  if q1.1 = 0 then
    some (0, q1.2)
  else
    (f_X8_takeNumber q1.2).bind fun q2 =>
    let v3 : Int32 := q2.1
    f_X8_readTeacher_h21 ga_fuel v3 0 0 q2.2
theorem fx_X8_readTeacher : ∃ f, f = fb_X8_readTeacher := ⟨_, rfl⟩
def f_X8_readTeacher : ga_M → Option (Int32 × ga_M) := Classical.choose fx_X8_readTeacher
theorem fe_X8_readTeacher : f_X8_readTeacher = fb_X8_readTeacher := Classical.choose_spec fx_X8_readTeacher

def f_X8_readTeachers_h2 : Nat → Int32 → ga_M → Option (Int32 × ga_M)
  | 0, _, _ => none
  | n + 1, l1, s =>
    if 8 < l1 then
      some (1, s)
    else
    if l1 = 0 then
      if l1 = 8 then
        let q104 : Int32 × ga_M := v_X8_fail 5 s
        some (q104.1, q104.2)
      else
        (f_X8_takeWord 1002 s).bind fun q101 =>
        if q101.1 = 0 then
          some (0, q101.2)
        else
          (f_X8_readTeacher q101.2).bind fun q102 =>
          if q102.1 = 0 then
            some (0, q102.2)
          else
            let v103 : Int32 := l1 + 1
            f_X8_readTeachers_h2 n v103 q102.2
    else
      (f_X10_isWord 1002 s).bind fun x105 =>
      if x105 = 0 then
        some (1, s)
      else
      if l1 = 8 then
        let q109 : Int32 × ga_M := v_X8_fail 5 s
        some (q109.1, q109.2)
      else
        (f_X8_takeWord 1002 s).bind fun q106 =>
        if q106.1 = 0 then
          some (0, q106.2)
        else
          (f_X8_readTeacher q106.2).bind fun q107 =>
          if q107.1 = 0 then
            some (0, q107.2)
          else
            let v108 : Int32 := l1 + 1
            f_X8_readTeachers_h2 n v108 q107.2
def fb_X8_readTeachers (s : ga_M) : Option (Int32 × ga_M) :=
  f_X8_readTeachers_h2 ga_fuel 0 s
theorem fx_X8_readTeachers : ∃ f, f = fb_X8_readTeachers := ⟨_, rfl⟩
def f_X8_readTeachers : ga_M → Option (Int32 × ga_M) := Classical.choose fx_X8_readTeachers
theorem fe_X8_readTeachers : f_X8_readTeachers = fb_X8_readTeachers := Classical.choose_spec fx_X8_readTeachers

def fb_X7_addRoom_49 (a : Int32) (s : ga_M) : Option (ga_M) :=
  let s1 : ga_M := ga_pt 57 6 (s 49 4) a s
  let s2 : ga_M := ga_up s1 49 4 ((s1 49 4) + 1)
  some s2
theorem fx_X7_addRoom_49 : ∃ f, f = fb_X7_addRoom_49 := ⟨_, rfl⟩
def f_X7_addRoom_49 : Int32 → ga_M → Option (ga_M) := Classical.choose fx_X7_addRoom_49
theorem fe_X7_addRoom_49 : f_X7_addRoom_49 = fb_X7_addRoom_49 := Classical.choose_spec fx_X7_addRoom_49
def vb_X7_addRoom_49 (a : Int32) (s : ga_M) : ga_M :=
  let s1 : ga_M := ga_pt 57 6 (s 49 4) a s
  let s2 : ga_M := ga_up s1 49 4 ((s1 49 4) + 1)
  s2
theorem vx_X7_addRoom_49 : ∃ f, f = vb_X7_addRoom_49 := ⟨_, rfl⟩
def v_X7_addRoom_49 : Int32 → ga_M → ga_M := Classical.choose vx_X7_addRoom_49
theorem ve_X7_addRoom_49 : v_X7_addRoom_49 = vb_X7_addRoom_49 := Classical.choose_spec vx_X7_addRoom_49
theorem e_X7_addRoom_49 (a : Int32) (s : ga_M) : f_X7_addRoom_49 a s = some (v_X7_addRoom_49 a s) := by
  rw [fe_X7_addRoom_49, ve_X7_addRoom_49]
  unfold fb_X7_addRoom_49 vb_X7_addRoom_49
  rfl

def f_X8_readRooms_h2 : Nat → Int32 → ga_M → Option (Int32 × ga_M)
  | 0, _, _ => none
  | n + 1, l1, s =>
    if 6 < l1 then
      some (1, s)
    else
    if l1 = 0 then
      if l1 = 6 then
        let q107 : Int32 × ga_M := v_X8_fail 5 s
        some (q107.1, q107.2)
      else
        (f_X8_takeWord 1003 s).bind fun q101 =>
        if q101.1 = 0 then
          some (0, q101.2)
        else
          let q102 : Int32 × ga_M := v_X8_checkNumber 0 3 q101.2
          if q102.1 = 0 then
            some (0, q102.2)
          else
            (f_X8_takeNumber q102.2).bind fun q103 =>
            let s104 : ga_M := v_X7_addRoom_49 (q103.1) q103.2
            (f_X8_takeSemicolon s104).bind fun q105 =>
            if q105.1 = 0 then
              some (0, q105.2)
            else
              let v106 : Int32 := l1 + 1
              f_X8_readRooms_h2 n v106 q105.2
    else
      (f_X10_isWord 1003 s).bind fun x108 =>
      if x108 = 0 then
        some (1, s)
      else
      if l1 = 6 then
        let q115 : Int32 × ga_M := v_X8_fail 5 s
        some (q115.1, q115.2)
      else
        (f_X8_takeWord 1003 s).bind fun q109 =>
        if q109.1 = 0 then
          some (0, q109.2)
        else
          let q110 : Int32 × ga_M := v_X8_checkNumber 0 3 q109.2
          if q110.1 = 0 then
            some (0, q110.2)
          else
            (f_X8_takeNumber q110.2).bind fun q111 =>
            let s112 : ga_M := v_X7_addRoom_49 (q111.1) q111.2
            (f_X8_takeSemicolon s112).bind fun q113 =>
            if q113.1 = 0 then
              some (0, q113.2)
            else
              let v114 : Int32 := l1 + 1
              f_X8_readRooms_h2 n v114 q113.2
def fb_X8_readRooms (s : ga_M) : Option (Int32 × ga_M) :=
  f_X8_readRooms_h2 ga_fuel 0 s
theorem fx_X8_readRooms : ∃ f, f = fb_X8_readRooms := ⟨_, rfl⟩
def f_X8_readRooms : ga_M → Option (Int32 × ga_M) := Classical.choose fx_X8_readRooms
theorem fe_X8_readRooms : f_X8_readRooms = fb_X8_readRooms := Classical.choose_spec fx_X8_readRooms

def fb_X8_readClasses (s : ga_M) : Option (Int32 × ga_M) :=
  (f_X8_takeWord 1004 s).bind fun q1 =>
  if q1.1 = 0 then
    some (0, q1.2)
  else
    let q2 : Int32 × ga_M := v_X8_checkNumber 1 6 q1.2
    if q2.1 = 0 then
      some (0, q2.2)
    else
      (f_X8_takeNumber q2.2).bind fun q3 =>
      let s4 : ga_M := ga_up q3.2 49 5 (q3.1)
      (f_X8_takeSemicolon s4).bind fun q5 =>
      some (q5.1, q5.2)
theorem fx_X8_readClasses : ∃ f, f = fb_X8_readClasses := ⟨_, rfl⟩
def f_X8_readClasses : ga_M → Option (Int32 × ga_M) := Classical.choose fx_X8_readClasses
theorem fe_X8_readClasses : f_X8_readClasses = fb_X8_readClasses := Classical.choose_spec fx_X8_readClasses

def fb_X7_slots_49 (s : ga_M) : Option (Int32) :=
  some (((s 49 0) * (s 49 1)))
theorem fx_X7_slots_49 : ∃ f, f = fb_X7_slots_49 := ⟨_, rfl⟩
def f_X7_slots_49 : ga_M → Option (Int32) := Classical.choose fx_X7_slots_49
theorem fe_X7_slots_49 : f_X7_slots_49 = fb_X7_slots_49 := Classical.choose_spec fx_X7_slots_49
def vb_X7_slots_49 (s : ga_M) : Int32 :=
  ((s 49 0) * (s 49 1))
theorem vx_X7_slots_49 : ∃ f, f = vb_X7_slots_49 := ⟨_, rfl⟩
def v_X7_slots_49 : ga_M → Int32 := Classical.choose vx_X7_slots_49
theorem ve_X7_slots_49 : v_X7_slots_49 = vb_X7_slots_49 := Classical.choose_spec vx_X7_slots_49
theorem e_X7_slots_49 (s : ga_M) : f_X7_slots_49 s = some (v_X7_slots_49 s) := by
  rw [fe_X7_slots_49, ve_X7_slots_49]
  unfold fb_X7_slots_49 vb_X7_slots_49
  rfl

def f_X7_isTakenAtFirst_49_58_h3 : Nat → Int32 → Int32 → Int32 → ga_M → Option (Int32)
  | 0, _, _, _, _ => none
  | n + 1, l1, l3, l4, s =>
    if (s 49 6) ≤ l4 then
      some 0
    else
    if (ga_at 63 40 l4 s) = l1 then
      if (ga_at 59 40 l4 s) = l3 then
        some 1
      else
        let v102 : Int32 := l4 + 1
        f_X7_isTakenAtFirst_49_58_h3 n l1 l3 v102 s
    else
      let v101 : Int32 := l4 + 1
      f_X7_isTakenAtFirst_49_58_h3 n l1 l3 v101 s
def fb_X7_isTakenAtFirst_49_58 (a : Int32) (b : Int32) (s : ga_M) : Option (Int32) :=
  f_X7_isTakenAtFirst_49_58_h3 ga_fuel a b 0 s
theorem fx_X7_isTakenAtFirst_49_58 : ∃ f, f = fb_X7_isTakenAtFirst_49_58 := ⟨_, rfl⟩
def f_X7_isTakenAtFirst_49_58 : Int32 → Int32 → ga_M → Option (Int32) := Classical.choose fx_X7_isTakenAtFirst_49_58
theorem fe_X7_isTakenAtFirst_49_58 : f_X7_isTakenAtFirst_49_58 = fb_X7_isTakenAtFirst_49_58 := Classical.choose_spec fx_X7_isTakenAtFirst_49_58

def fb_X8_checkUntaken_58 (a : Int32) (b : Int32) (s : ga_M) : Option (Int32 × ga_M) :=
  let q1 : Int32 × ga_M := v_X8_checkNumber 0 (b - 1) s
  if q1.1 = 0 then
    some (0, q1.2)
  else
    (f_X7_isTakenAtFirst_49_58 a (q1.2 45 5) q1.2).bind fun x2 =>
    if x2 = 0 then
      some (1, q1.2)
    else
      let q3 : Int32 × ga_M := v_X8_fail 3 q1.2
      if q3.1 = 0 then
        some (0, q3.2)
      else
        some (1, q3.2)
theorem fx_X8_checkUntaken_58 : ∃ f, f = fb_X8_checkUntaken_58 := ⟨_, rfl⟩
def f_X8_checkUntaken_58 : Int32 → Int32 → ga_M → Option (Int32 × ga_M) := Classical.choose fx_X8_checkUntaken_58
theorem fe_X8_checkUntaken_58 : f_X8_checkUntaken_58 = fb_X8_checkUntaken_58 := Classical.choose_spec fx_X8_checkUntaken_58

def f_X7_isTakenAtFirst_49_64_h3 : Nat → Int32 → Int32 → Int32 → ga_M → Option (Int32)
  | 0, _, _, _, _ => none
  | n + 1, l1, l3, l4, s =>
    if (s 49 6) ≤ l4 then
      some 0
    else
    if (ga_at 63 40 l4 s) = l1 then
      if (ga_at 65 40 l4 s) = l3 then
        some 1
      else
        let v102 : Int32 := l4 + 1
        f_X7_isTakenAtFirst_49_64_h3 n l1 l3 v102 s
    else
      let v101 : Int32 := l4 + 1
      f_X7_isTakenAtFirst_49_64_h3 n l1 l3 v101 s
def fb_X7_isTakenAtFirst_49_64 (a : Int32) (b : Int32) (s : ga_M) : Option (Int32) :=
  f_X7_isTakenAtFirst_49_64_h3 ga_fuel a b 0 s
theorem fx_X7_isTakenAtFirst_49_64 : ∃ f, f = fb_X7_isTakenAtFirst_49_64 := ⟨_, rfl⟩
def f_X7_isTakenAtFirst_49_64 : Int32 → Int32 → ga_M → Option (Int32) := Classical.choose fx_X7_isTakenAtFirst_49_64
theorem fe_X7_isTakenAtFirst_49_64 : f_X7_isTakenAtFirst_49_64 = fb_X7_isTakenAtFirst_49_64 := Classical.choose_spec fx_X7_isTakenAtFirst_49_64

def fb_X8_checkUntaken_64 (a : Int32) (b : Int32) (s : ga_M) : Option (Int32 × ga_M) :=
  let q1 : Int32 × ga_M := v_X8_checkNumber 0 (b - 1) s
  if q1.1 = 0 then
    some (0, q1.2)
  else
    (f_X7_isTakenAtFirst_49_64 a (q1.2 45 5) q1.2).bind fun x2 =>
    if x2 = 0 then
      some (1, q1.2)
    else
      let q3 : Int32 × ga_M := v_X8_fail 3 q1.2
      if q3.1 = 0 then
        some (0, q3.2)
      else
        some (1, q3.2)
theorem fx_X8_checkUntaken_64 : ∃ f, f = fb_X8_checkUntaken_64 := ⟨_, rfl⟩
def f_X8_checkUntaken_64 : Int32 → Int32 → ga_M → Option (Int32 × ga_M) := Classical.choose fx_X8_checkUntaken_64
theorem fe_X8_checkUntaken_64 : f_X8_checkUntaken_64 = fb_X8_checkUntaken_64 := Classical.choose_spec fx_X8_checkUntaken_64

def fb_X7_hasTeacher_49 (a : Int32) (s : ga_M) : Option (Int32) :=
  if a < 0 then
    some 0
  else
  if (s 49 3) ≤ a then
    some 0
  else
    some 1
theorem fx_X7_hasTeacher_49 : ∃ f, f = fb_X7_hasTeacher_49 := ⟨_, rfl⟩
def f_X7_hasTeacher_49 : Int32 → ga_M → Option (Int32) := Classical.choose fx_X7_hasTeacher_49
theorem fe_X7_hasTeacher_49 : f_X7_hasTeacher_49 = fb_X7_hasTeacher_49 := Classical.choose_spec fx_X7_hasTeacher_49
def vb_X7_hasTeacher_49 (a : Int32) (s : ga_M) : Int32 :=
  if a < 0 then
    0
  else
  if (s 49 3) ≤ a then
    0
  else
    1
theorem vx_X7_hasTeacher_49 : ∃ f, f = vb_X7_hasTeacher_49 := ⟨_, rfl⟩
def v_X7_hasTeacher_49 : Int32 → ga_M → Int32 := Classical.choose vx_X7_hasTeacher_49
theorem ve_X7_hasTeacher_49 : v_X7_hasTeacher_49 = vb_X7_hasTeacher_49 := Classical.choose_spec vx_X7_hasTeacher_49
theorem e_X7_hasTeacher_49 (a : Int32) (s : ga_M) : f_X7_hasTeacher_49 a s = some (v_X7_hasTeacher_49 a s) := by
  rw [fe_X7_hasTeacher_49, ve_X7_hasTeacher_49]
  unfold fb_X7_hasTeacher_49 vb_X7_hasTeacher_49
  (try dsimp only)
  repeat' (first | rfl | split)

def fb_X7_isQualified_49 (a : Int32) (b : Int32) (s : ga_M) : Option (Int32) :=
  if (v_X7_hasTeacher_49 a s) = 0 then
    some 0
  else
  if (v_X11_hasBit (ga_at 55 8 a s) b s) = 0 then
    some 0
  else
    some 1
theorem fx_X7_isQualified_49 : ∃ f, f = fb_X7_isQualified_49 := ⟨_, rfl⟩
def f_X7_isQualified_49 : Int32 → Int32 → ga_M → Option (Int32) := Classical.choose fx_X7_isQualified_49
theorem fe_X7_isQualified_49 : f_X7_isQualified_49 = fb_X7_isQualified_49 := Classical.choose_spec fx_X7_isQualified_49
def vb_X7_isQualified_49 (a : Int32) (b : Int32) (s : ga_M) : Int32 :=
  if (v_X7_hasTeacher_49 a s) = 0 then
    0
  else
  if (v_X11_hasBit (ga_at 55 8 a s) b s) = 0 then
    0
  else
    1
theorem vx_X7_isQualified_49 : ∃ f, f = vb_X7_isQualified_49 := ⟨_, rfl⟩
def v_X7_isQualified_49 : Int32 → Int32 → ga_M → Int32 := Classical.choose vx_X7_isQualified_49
theorem ve_X7_isQualified_49 : v_X7_isQualified_49 = vb_X7_isQualified_49 := Classical.choose_spec vx_X7_isQualified_49
theorem e_X7_isQualified_49 (a : Int32) (b : Int32) (s : ga_M) : f_X7_isQualified_49 a b s = some (v_X7_isQualified_49 a b s) := by
  rw [fe_X7_isQualified_49, ve_X7_isQualified_49]
  unfold fb_X7_isQualified_49 vb_X7_isQualified_49
  (try dsimp only)
  repeat' (first | rfl | split)

def f_X7_isTakenAtFirst_49_66_h3 : Nat → Int32 → Int32 → Int32 → ga_M → Option (Int32)
  | 0, _, _, _, _ => none
  | n + 1, l1, l3, l4, s =>
    if (s 49 6) ≤ l4 then
      some 0
    else
    if (ga_at 63 40 l4 s) = l1 then
      if (ga_at 67 40 l4 s) = l3 then
        some 1
      else
        let v102 : Int32 := l4 + 1
        f_X7_isTakenAtFirst_49_66_h3 n l1 l3 v102 s
    else
      let v101 : Int32 := l4 + 1
      f_X7_isTakenAtFirst_49_66_h3 n l1 l3 v101 s
def fb_X7_isTakenAtFirst_49_66 (a : Int32) (b : Int32) (s : ga_M) : Option (Int32) :=
  f_X7_isTakenAtFirst_49_66_h3 ga_fuel a b 0 s
theorem fx_X7_isTakenAtFirst_49_66 : ∃ f, f = fb_X7_isTakenAtFirst_49_66 := ⟨_, rfl⟩
def f_X7_isTakenAtFirst_49_66 : Int32 → Int32 → ga_M → Option (Int32) := Classical.choose fx_X7_isTakenAtFirst_49_66
theorem fe_X7_isTakenAtFirst_49_66 : f_X7_isTakenAtFirst_49_66 = fb_X7_isTakenAtFirst_49_66 := Classical.choose_spec fx_X7_isTakenAtFirst_49_66

def fb_X8_checkUntaken_66 (a : Int32) (b : Int32) (s : ga_M) : Option (Int32 × ga_M) :=
  let q1 : Int32 × ga_M := v_X8_checkNumber 0 (b - 1) s
  if q1.1 = 0 then
    some (0, q1.2)
  else
    (f_X7_isTakenAtFirst_49_66 a (q1.2 45 5) q1.2).bind fun x2 =>
    if x2 = 0 then
      some (1, q1.2)
    else
      let q3 : Int32 × ga_M := v_X8_fail 3 q1.2
      if q3.1 = 0 then
        some (0, q3.2)
      else
        some (1, q3.2)
theorem fx_X8_checkUntaken_66 : ∃ f, f = fb_X8_checkUntaken_66 := ⟨_, rfl⟩
def f_X8_checkUntaken_66 : Int32 → Int32 → ga_M → Option (Int32 × ga_M) := Classical.choose fx_X8_checkUntaken_66
theorem fe_X8_checkUntaken_66 : f_X8_checkUntaken_66 = fb_X8_checkUntaken_66 := Classical.choose_spec fx_X8_checkUntaken_66

def fb_X7_addLesson_49 (a : Int32) (b : Int32) (c : Int32) (d : Int32) (e : Int32) (s : ga_M) : Option (ga_M) :=
  let s1 : ga_M := ga_pt 63 40 (s 49 6) a s
  let s2 : ga_M := ga_pt 59 40 (s1 49 6) b s1
  let s3 : ga_M := ga_pt 61 40 (s2 49 6) c s2
  let s4 : ga_M := ga_pt 65 40 (s3 49 6) d s3
  let s5 : ga_M := ga_pt 67 40 (s4 49 6) e s4
  let s6 : ga_M := ga_up s5 49 6 ((s5 49 6) + 1)
  some s6
theorem fx_X7_addLesson_49 : ∃ f, f = fb_X7_addLesson_49 := ⟨_, rfl⟩
def f_X7_addLesson_49 : Int32 → Int32 → Int32 → Int32 → Int32 → ga_M → Option (ga_M) := Classical.choose fx_X7_addLesson_49
theorem fe_X7_addLesson_49 : f_X7_addLesson_49 = fb_X7_addLesson_49 := Classical.choose_spec fx_X7_addLesson_49
def vb_X7_addLesson_49 (a : Int32) (b : Int32) (c : Int32) (d : Int32) (e : Int32) (s : ga_M) : ga_M :=
  let s1 : ga_M := ga_pt 63 40 (s 49 6) a s
  let s2 : ga_M := ga_pt 59 40 (s1 49 6) b s1
  let s3 : ga_M := ga_pt 61 40 (s2 49 6) c s2
  let s4 : ga_M := ga_pt 65 40 (s3 49 6) d s3
  let s5 : ga_M := ga_pt 67 40 (s4 49 6) e s4
  let s6 : ga_M := ga_up s5 49 6 ((s5 49 6) + 1)
  s6
theorem vx_X7_addLesson_49 : ∃ f, f = vb_X7_addLesson_49 := ⟨_, rfl⟩
def v_X7_addLesson_49 : Int32 → Int32 → Int32 → Int32 → Int32 → ga_M → ga_M := Classical.choose vx_X7_addLesson_49
theorem ve_X7_addLesson_49 : v_X7_addLesson_49 = vb_X7_addLesson_49 := Classical.choose_spec vx_X7_addLesson_49
theorem e_X7_addLesson_49 (a : Int32) (b : Int32) (c : Int32) (d : Int32) (e : Int32) (s : ga_M) : f_X7_addLesson_49 a b c d e s = some (v_X7_addLesson_49 a b c d e s) := by
  rw [fe_X7_addLesson_49, ve_X7_addLesson_49]
  unfold fb_X7_addLesson_49 vb_X7_addLesson_49
  rfl

def fb_X8_readLesson_j155 (l1 : Int32) (l2 : Int32) (l3 : Int32) (l4 : Int32) (s : ga_M) : Option (Int32 × ga_M) :=
  if (ga_at 57 6 (s 45 5) s) = (ga_at 51 6 l3 s) then
    (f_X8_takeNumber s).bind fun q301 =>
    let s302 : ga_M := v_X7_addLesson_49 l1 l2 l3 l4 (q301.1) q301.2
    (f_X8_takeSemicolon s302).bind fun q303 =>
    some (q303.1, q303.2)
  else
    let q304 : Int32 × ga_M := v_X8_fail 4 s
    some (q304.1, q304.2)
theorem fx_X8_readLesson_j155 : ∃ f, f = fb_X8_readLesson_j155 := ⟨_, rfl⟩
def f_X8_readLesson_j155 : Int32 → Int32 → Int32 → Int32 → ga_M → Option (Int32 × ga_M) := Classical.choose fx_X8_readLesson_j155
theorem fe_X8_readLesson_j155 : f_X8_readLesson_j155 = fb_X8_readLesson_j155 := Classical.choose_spec fx_X8_readLesson_j155
def fb_X8_readLesson_j101 (l1 : Int32) (l2 : Int32) (l3 : Int32) (s : ga_M) : Option (Int32 × ga_M) :=
  if (v_X7_isQualified_49 (s 45 5) l3 s) = 0 then
    let q204 : Int32 × ga_M := v_X8_fail 4 s
    some (q204.1, q204.2)
  else
    (f_X8_takeNumber s).bind fun q201 =>
    let v202 : Int32 := q201.1
    (f_X8_checkUntaken_66 l1 (q201.2 49 4) q201.2).bind fun q203 =>
    if q203.1 = 0 then
      some (0, q203.2)
    else
      f_X8_readLesson_j155 l1 l2 l3 v202 q203.2
theorem fx_X8_readLesson_j101 : ∃ f, f = fb_X8_readLesson_j101 := ⟨_, rfl⟩
def f_X8_readLesson_j101 : Int32 → Int32 → Int32 → ga_M → Option (Int32 × ga_M) := Classical.choose fx_X8_readLesson_j101
theorem fe_X8_readLesson_j101 : f_X8_readLesson_j101 = fb_X8_readLesson_j101 := Classical.choose_spec fx_X8_readLesson_j101
def fb_X8_readLesson_j48 (l1 : Int32) (s : ga_M) : Option (Int32 × ga_M) :=
  (f_X8_takeNumber s).bind fun q101 =>
  let v102 : Int32 := q101.1
  let q103 : Int32 × ga_M := v_X8_checkNumber 0 ((q101.2 49 2) - 1) q101.2
  if q103.1 = 0 then
    some (0, q103.2)
  else
    (f_X8_takeNumber q103.2).bind fun q104 =>
    let v105 : Int32 := q104.1
    (f_X8_checkUntaken_64 l1 (q104.2 49 3) q104.2).bind fun q106 =>
    if q106.1 = 0 then
      some (0, q106.2)
    else
      f_X8_readLesson_j101 l1 v102 v105 q106.2
theorem fx_X8_readLesson_j48 : ∃ f, f = fb_X8_readLesson_j48 := ⟨_, rfl⟩
def f_X8_readLesson_j48 : Int32 → ga_M → Option (Int32 × ga_M) := Classical.choose fx_X8_readLesson_j48
theorem fe_X8_readLesson_j48 : f_X8_readLesson_j48 = fb_X8_readLesson_j48 := Classical.choose_spec fx_X8_readLesson_j48
def fb_X8_readLesson (s : ga_M) : Option (Int32 × ga_M) :=
  let q1 : Int32 × ga_M := v_X8_checkNumber 0 ((v_X7_slots_49 s) - 1) s
  if q1.1 = 0 then
    some (0, q1.2)
  else
    (f_X8_takeNumber q1.2).bind fun q2 =>
    let v3 : Int32 := q2.1
    (f_X8_checkUntaken_58 v3 (q2.2 49 5) q2.2).bind fun q4 =>
    if q4.1 = 0 then
      some (0, q4.2)
    else
      f_X8_readLesson_j48 v3 q4.2
theorem fx_X8_readLesson : ∃ f, f = fb_X8_readLesson := ⟨_, rfl⟩
def f_X8_readLesson : ga_M → Option (Int32 × ga_M) := Classical.choose fx_X8_readLesson
theorem fe_X8_readLesson : f_X8_readLesson = fb_X8_readLesson := Classical.choose_spec fx_X8_readLesson

def f_X8_readLessons_h2 : Nat → Int32 → ga_M → Option (Int32 × ga_M)
  | 0, _, _ => none
  | n + 1, l1, s =>
    if 40 < l1 then
      if (s 45 2) = 0 then
        some (1, s)
      else
        let q101 : Int32 × ga_M := v_X8_fail 1 s
        if q101.1 = 0 then
          some (0, q101.2)
        else
          some (1, q101.2)
    else
      (f_X10_isWord 1005 s).bind fun x102 =>
      if x102 = 0 then
        if (s 45 2) = 0 then
          some (1, s)
        else
          let q103 : Int32 × ga_M := v_X8_fail 1 s
          if q103.1 = 0 then
            some (0, q103.2)
          else
            some (1, q103.2)
      else
      if l1 = 40 then
        let q107 : Int32 × ga_M := v_X8_fail 5 s
        some (q107.1, q107.2)
      else
        (f_X10_next s).bind fun s104 =>
        (f_X8_readLesson s104).bind fun q105 =>
        if q105.1 = 0 then
          some (0, q105.2)
        else
          let v106 : Int32 := l1 + 1
          f_X8_readLessons_h2 n v106 q105.2
def fb_X8_readLessons (s : ga_M) : Option (Int32 × ga_M) :=
  f_X8_readLessons_h2 ga_fuel 0 s
theorem fx_X8_readLessons : ∃ f, f = fb_X8_readLessons := ⟨_, rfl⟩
def f_X8_readLessons : ga_M → Option (Int32 × ga_M) := Classical.choose fx_X8_readLessons
theorem fe_X8_readLessons : f_X8_readLessons = fb_X8_readLessons := Classical.choose_spec fx_X8_readLessons

def fb_X8_read (s : ga_M) : Option (Int32 × ga_M) :=
  let s1 : ga_M := v_X7_becomeEmpty_49 s
  (f_X10_begin s1).bind fun s2 =>
  (f_X8_readGrid s2).bind fun q3 =>
  if q3.1 = 0 then
    some (0, q3.2)
  else
    (f_X8_readSubjects q3.2).bind fun q4 =>
    if q4.1 = 0 then
      some (0, q4.2)
    else
      (f_X8_readTeachers q4.2).bind fun q5 =>
      if q5.1 = 0 then
        some (0, q5.2)
      else
        (f_X8_readRooms q5.2).bind fun q6 =>
        if q6.1 = 0 then
          some (0, q6.2)
        else
          (f_X8_readClasses q6.2).bind fun q7 =>
          if q7.1 = 0 then
            some (0, q7.2)
          else
            (f_X8_readLessons q7.2).bind fun q8 =>
            if q8.1 = 0 then
              some (0, q8.2)
            else
              some (1, q8.2)
theorem fx_X8_read : ∃ f, f = fb_X8_read := ⟨_, rfl⟩
def f_X8_read : ga_M → Option (Int32 × ga_M) := Classical.choose fx_X8_read
theorem fe_X8_read : f_X8_read = fb_X8_read := Classical.choose_spec fx_X8_read

def fb_X7_become_49 (s : ga_M) : Option (ga_M) :=
  let s1 : ga_M := ga_up s 1 0 (s 49 0)
  let s2 : ga_M := ga_up s1 1 1 (s1 49 1)
  let s3 : ga_M := ga_up s2 1 2 (s2 49 2)
  let s4 : ga_M := ga_up s3 1 3 (s3 49 3)
  let s5 : ga_M := ga_up s4 1 4 (s4 49 4)
  let s6 : ga_M := ga_up s5 1 5 (s5 49 5)
  let s7 : ga_M := ga_up s6 1 6 (s6 49 6)
  let s8 : ga_M := ga_bc 3 6 51 6 s7
  let s9 : ga_M := ga_bc 5 8 53 8 s8
  let s10 : ga_M := ga_bc 7 8 55 8 s9
  let s11 : ga_M := ga_bc 9 6 57 6 s10
  let s12 : ga_M := ga_bc 11 40 59 40 s11
  let s13 : ga_M := ga_bc 13 40 61 40 s12
  let s14 : ga_M := ga_bc 15 40 63 40 s13
  let s15 : ga_M := ga_bc 17 40 65 40 s14
  let s16 : ga_M := ga_bc 19 40 67 40 s15
  some s16
theorem fx_X7_become_49 : ∃ f, f = fb_X7_become_49 := ⟨_, rfl⟩
def f_X7_become_49 : ga_M → Option (ga_M) := Classical.choose fx_X7_become_49
theorem fe_X7_become_49 : f_X7_become_49 = fb_X7_become_49 := Classical.choose_spec fx_X7_become_49
def vb_X7_become_49 (s : ga_M) : ga_M :=
  let s1 : ga_M := ga_up s 1 0 (s 49 0)
  let s2 : ga_M := ga_up s1 1 1 (s1 49 1)
  let s3 : ga_M := ga_up s2 1 2 (s2 49 2)
  let s4 : ga_M := ga_up s3 1 3 (s3 49 3)
  let s5 : ga_M := ga_up s4 1 4 (s4 49 4)
  let s6 : ga_M := ga_up s5 1 5 (s5 49 5)
  let s7 : ga_M := ga_up s6 1 6 (s6 49 6)
  let s8 : ga_M := ga_bc 3 6 51 6 s7
  let s9 : ga_M := ga_bc 5 8 53 8 s8
  let s10 : ga_M := ga_bc 7 8 55 8 s9
  let s11 : ga_M := ga_bc 9 6 57 6 s10
  let s12 : ga_M := ga_bc 11 40 59 40 s11
  let s13 : ga_M := ga_bc 13 40 61 40 s12
  let s14 : ga_M := ga_bc 15 40 63 40 s13
  let s15 : ga_M := ga_bc 17 40 65 40 s14
  let s16 : ga_M := ga_bc 19 40 67 40 s15
  s16
theorem vx_X7_become_49 : ∃ f, f = vb_X7_become_49 := ⟨_, rfl⟩
def v_X7_become_49 : ga_M → ga_M := Classical.choose vx_X7_become_49
theorem ve_X7_become_49 : v_X7_become_49 = vb_X7_become_49 := Classical.choose_spec vx_X7_become_49
theorem e_X7_become_49 (s : ga_M) : f_X7_become_49 s = some (v_X7_become_49 s) := by
  rw [fe_X7_become_49, ve_X7_become_49]
  unfold fb_X7_become_49 vb_X7_become_49
  rfl

def fb_X7_dayOf (a : Int32) (s : ga_M) : Option (Int32) :=
  if (s 1 1) ≤ 0 then
    some (-1)
  else
  if (s 1 1) = 0 then
    none
  else
    some ((a / (s 1 1)))
theorem fx_X7_dayOf : ∃ f, f = fb_X7_dayOf := ⟨_, rfl⟩
def f_X7_dayOf : Int32 → ga_M → Option (Int32) := Classical.choose fx_X7_dayOf
theorem fe_X7_dayOf : f_X7_dayOf = fb_X7_dayOf := Classical.choose_spec fx_X7_dayOf

def fb_X3_isAway (a : Int32) (b : Int32) (s : ga_M) : Option (Int32) :=
  some ((v_X11_hasBit (ga_at 30 8 a s) b s))
theorem fx_X3_isAway : ∃ f, f = fb_X3_isAway := ⟨_, rfl⟩
def f_X3_isAway : Int32 → Int32 → ga_M → Option (Int32) := Classical.choose fx_X3_isAway
theorem fe_X3_isAway : f_X3_isAway = fb_X3_isAway := Classical.choose_spec fx_X3_isAway
def vb_X3_isAway (a : Int32) (b : Int32) (s : ga_M) : Int32 :=
  (v_X11_hasBit (ga_at 30 8 a s) b s)
theorem vx_X3_isAway : ∃ f, f = vb_X3_isAway := ⟨_, rfl⟩
def v_X3_isAway : Int32 → Int32 → ga_M → Int32 := Classical.choose vx_X3_isAway
theorem ve_X3_isAway : v_X3_isAway = vb_X3_isAway := Classical.choose_spec vx_X3_isAway
theorem e_X3_isAway (a : Int32) (b : Int32) (s : ga_M) : f_X3_isAway a b s = some (v_X3_isAway a b s) := by
  rw [fe_X3_isAway, ve_X3_isAway]
  unfold fb_X3_isAway vb_X3_isAway
  rfl

def fb_X3_isAwayAt (a : Int32) (b : Int32) (s : ga_M) : Option (Int32) :=
  (f_X7_dayOf b s).bind fun x1 =>
  some ((v_X3_isAway a x1 s))
theorem fx_X3_isAwayAt : ∃ f, f = fb_X3_isAwayAt := ⟨_, rfl⟩
def f_X3_isAwayAt : Int32 → Int32 → ga_M → Option (Int32) := Classical.choose fx_X3_isAwayAt
theorem fe_X3_isAwayAt : f_X3_isAwayAt = fb_X3_isAwayAt := Classical.choose_spec fx_X3_isAwayAt

def f_X3_returnToFirst_h2 : Nat → Int32 → ga_M → Option (ga_M)
  | 0, _, _ => none
  | n + 1, l1, s =>
    if (s 1 6) ≤ l1 then
      some s
    else
      let v101 : Int32 := (ga_at 15 40 l1 s)
      let v102 : Int32 := (ga_at 17 40 l1 s)
      let s103 : ga_M := ga_pt 22 40 l1 v101 s
      let s104 : ga_M := ga_pt 26 40 l1 (ga_at 19 40 l1 s103) s103
      (f_X3_isAwayAt v102 v101 s104).bind fun x105 =>
      if x105 = 0 then
        let s106 : ga_M := ga_pt 24 40 l1 v102 s104
        let s107 : ga_M := ga_pt 28 40 l1 0 s106
        let v108 : Int32 := l1 + 1
        f_X3_returnToFirst_h2 n v108 s107
      else
        let s109 : ga_M := ga_pt 24 40 l1 (-1) s104
        let s110 : ga_M := ga_pt 28 40 l1 0 s109
        let v111 : Int32 := l1 + 1
        f_X3_returnToFirst_h2 n v111 s110
def fb_X3_returnToFirst (s : ga_M) : Option (ga_M) :=
  f_X3_returnToFirst_h2 ga_fuel 0 s
theorem fx_X3_returnToFirst : ∃ f, f = fb_X3_returnToFirst := ⟨_, rfl⟩
def f_X3_returnToFirst : ga_M → Option (ga_M) := Classical.choose fx_X3_returnToFirst
theorem fe_X3_returnToFirst : f_X3_returnToFirst = fb_X3_returnToFirst := Classical.choose_spec fx_X3_returnToFirst

def f_X3_begin_h2 : Nat → Int32 → ga_M → Option (ga_M)
  | 0, _, _ => none
  | n + 1, l1, s =>
    if 8 ≤ l1 then
      (f_X3_returnToFirst s).bind fun s101 =>
      some s101
    else
      let s102 : ga_M := ga_pt 30 8 l1 0 s
      let v103 : Int32 := l1 + 1
      f_X3_begin_h2 n v103 s102
def fb_X3_begin (s : ga_M) : Option (ga_M) :=
  f_X3_begin_h2 ga_fuel 0 s
theorem fx_X3_begin : ∃ f, f = fb_X3_begin := ⟨_, rfl⟩
def f_X3_begin : ga_M → Option (ga_M) := Classical.choose fx_X3_begin
theorem fe_X3_begin : f_X3_begin = fb_X3_begin := Classical.choose_spec fx_X3_begin

def fb_X1_forget (s : ga_M) : Option (ga_M) :=
  let s1 : ga_M := ga_up s 42 3 0
  some s1
theorem fx_X1_forget : ∃ f, f = fb_X1_forget := ⟨_, rfl⟩
def f_X1_forget : ga_M → Option (ga_M) := Classical.choose fx_X1_forget
theorem fe_X1_forget : f_X1_forget = fb_X1_forget := Classical.choose_spec fx_X1_forget
def vb_X1_forget (s : ga_M) : ga_M :=
  let s1 : ga_M := ga_up s 42 3 0
  s1
theorem vx_X1_forget : ∃ f, f = vb_X1_forget := ⟨_, rfl⟩
def v_X1_forget : ga_M → ga_M := Classical.choose vx_X1_forget
theorem ve_X1_forget : v_X1_forget = vb_X1_forget := Classical.choose_spec vx_X1_forget
theorem e_X1_forget (s : ga_M) : f_X1_forget s = some (v_X1_forget s) := by
  rw [fe_X1_forget, ve_X1_forget]
  unfold fb_X1_forget vb_X1_forget
  rfl

def fb_X11_parseSchool (s : ga_M) : Option (Int32 × ga_M) :=
  (f_X8_read s).bind fun q1 =>
  let v2 : Int32 := q1.1
  let s3 : ga_M := ga_up q1.2 45 1 0
  if v2 = 0 then
    some ((-1), s3)
  else
    let s4 : ga_M := v_X7_become_49 s3
    (f_X3_begin s4).bind fun s5 =>
    let s6 : ga_M := v_X1_forget s5
    some ((s6 1 6), s6)
theorem fx_X11_parseSchool : ∃ f, f = fb_X11_parseSchool := ⟨_, rfl⟩
def f_X11_parseSchool : ga_M → Option (Int32 × ga_M) := Classical.choose fx_X11_parseSchool
theorem fe_X11_parseSchool : f_X11_parseSchool = fb_X11_parseSchool := Classical.choose_spec fx_X11_parseSchool

def fb_X7_hasTeacher (a : Int32) (s : ga_M) : Option (Int32) :=
  if a < 0 then
    some 0
  else
  if (s 1 3) ≤ a then
    some 0
  else
    some 1
theorem fx_X7_hasTeacher : ∃ f, f = fb_X7_hasTeacher := ⟨_, rfl⟩
def f_X7_hasTeacher : Int32 → ga_M → Option (Int32) := Classical.choose fx_X7_hasTeacher
theorem fe_X7_hasTeacher : f_X7_hasTeacher = fb_X7_hasTeacher := Classical.choose_spec fx_X7_hasTeacher
def vb_X7_hasTeacher (a : Int32) (s : ga_M) : Int32 :=
  if a < 0 then
    0
  else
  if (s 1 3) ≤ a then
    0
  else
    1
theorem vx_X7_hasTeacher : ∃ f, f = vb_X7_hasTeacher := ⟨_, rfl⟩
def v_X7_hasTeacher : Int32 → ga_M → Int32 := Classical.choose vx_X7_hasTeacher
theorem ve_X7_hasTeacher : v_X7_hasTeacher = vb_X7_hasTeacher := Classical.choose_spec vx_X7_hasTeacher
theorem e_X7_hasTeacher (a : Int32) (s : ga_M) : f_X7_hasTeacher a s = some (v_X7_hasTeacher a s) := by
  rw [fe_X7_hasTeacher, ve_X7_hasTeacher]
  unfold fb_X7_hasTeacher vb_X7_hasTeacher
  (try dsimp only)
  repeat' (first | rfl | split)

def fb_X11_requireTeacher (a : Int32) (s : ga_M) : Option (Option Nat) :=
  if (v_X7_hasTeacher a s) = 0 then
    some (some 3)
  else
    some none
theorem fx_X11_requireTeacher : ∃ f, f = fb_X11_requireTeacher := ⟨_, rfl⟩
def f_X11_requireTeacher : Int32 → ga_M → Option (Option Nat) := Classical.choose fx_X11_requireTeacher
theorem fe_X11_requireTeacher : f_X11_requireTeacher = fb_X11_requireTeacher := Classical.choose_spec fx_X11_requireTeacher
def vb_X11_requireTeacher (a : Int32) (s : ga_M) : Option Nat :=
  if (v_X7_hasTeacher a s) = 0 then
    some 3
  else
    none
theorem vx_X11_requireTeacher : ∃ f, f = vb_X11_requireTeacher := ⟨_, rfl⟩
def v_X11_requireTeacher : Int32 → ga_M → Option Nat := Classical.choose vx_X11_requireTeacher
theorem ve_X11_requireTeacher : v_X11_requireTeacher = vb_X11_requireTeacher := Classical.choose_spec vx_X11_requireTeacher
theorem e_X11_requireTeacher (a : Int32) (s : ga_M) : f_X11_requireTeacher a s = some (v_X11_requireTeacher a s) := by
  rw [fe_X11_requireTeacher, ve_X11_requireTeacher]
  unfold fb_X11_requireTeacher vb_X11_requireTeacher
  (try dsimp only)
  repeat' (first | rfl | split)

def fb_X7_hasDay (a : Int32) (s : ga_M) : Option (Int32) :=
  if a < 0 then
    some 0
  else
  if (s 1 0) ≤ a then
    some 0
  else
    some 1
theorem fx_X7_hasDay : ∃ f, f = fb_X7_hasDay := ⟨_, rfl⟩
def f_X7_hasDay : Int32 → ga_M → Option (Int32) := Classical.choose fx_X7_hasDay
theorem fe_X7_hasDay : f_X7_hasDay = fb_X7_hasDay := Classical.choose_spec fx_X7_hasDay
def vb_X7_hasDay (a : Int32) (s : ga_M) : Int32 :=
  if a < 0 then
    0
  else
  if (s 1 0) ≤ a then
    0
  else
    1
theorem vx_X7_hasDay : ∃ f, f = vb_X7_hasDay := ⟨_, rfl⟩
def v_X7_hasDay : Int32 → ga_M → Int32 := Classical.choose vx_X7_hasDay
theorem ve_X7_hasDay : v_X7_hasDay = vb_X7_hasDay := Classical.choose_spec vx_X7_hasDay
theorem e_X7_hasDay (a : Int32) (s : ga_M) : f_X7_hasDay a s = some (v_X7_hasDay a s) := by
  rw [fe_X7_hasDay, ve_X7_hasDay]
  unfold fb_X7_hasDay vb_X7_hasDay
  (try dsimp only)
  repeat' (first | rfl | split)

def fb_X11_requireDay (a : Int32) (s : ga_M) : Option (Option Nat) :=
  if (v_X7_hasDay a s) = 0 then
    some (some 3)
  else
    some none
theorem fx_X11_requireDay : ∃ f, f = fb_X11_requireDay := ⟨_, rfl⟩
def f_X11_requireDay : Int32 → ga_M → Option (Option Nat) := Classical.choose fx_X11_requireDay
theorem fe_X11_requireDay : f_X11_requireDay = fb_X11_requireDay := Classical.choose_spec fx_X11_requireDay
def vb_X11_requireDay (a : Int32) (s : ga_M) : Option Nat :=
  if (v_X7_hasDay a s) = 0 then
    some 3
  else
    none
theorem vx_X11_requireDay : ∃ f, f = vb_X11_requireDay := ⟨_, rfl⟩
def v_X11_requireDay : Int32 → ga_M → Option Nat := Classical.choose vx_X11_requireDay
theorem ve_X11_requireDay : v_X11_requireDay = vb_X11_requireDay := Classical.choose_spec vx_X11_requireDay
theorem e_X11_requireDay (a : Int32) (s : ga_M) : f_X11_requireDay a s = some (v_X11_requireDay a s) := by
  rw [fe_X11_requireDay, ve_X11_requireDay]
  unfold fb_X11_requireDay vb_X11_requireDay
  (try dsimp only)
  repeat' (first | rfl | split)

def fb_X1_baseOf (a : Int32) (s : ga_M) : Option (Int32) :=
  if 11 = 0 then
    none
  else
    some (((((s 42 2) + a) - ((s 42 2) + a) / 11 * 11) * 168))
theorem fx_X1_baseOf : ∃ f, f = fb_X1_baseOf := ⟨_, rfl⟩
def f_X1_baseOf : Int32 → ga_M → Option (Int32) := Classical.choose fx_X1_baseOf
theorem fe_X1_baseOf : f_X1_baseOf = fb_X1_baseOf := Classical.choose_spec fx_X1_baseOf

def f_X1_mark_h123 : Nat → Int32 → Int32 → ga_M → Option (ga_M)
  | 0, _, _, _ => none
  | n + 1, l1, l2, s =>
    if 8 ≤ l2 then
      some s
    else
      let s201 : ga_M := ga_pt 44 1848 ((l1 + 160) + l2) (ga_at 30 8 l2 s) s
      let v202 : Int32 := l2 + 1
      f_X1_mark_h123 n l1 v202 s201
def f_X1_mark_h11 : Nat → Int32 → Int32 → ga_M → Option (ga_M)
  | 0, _, _, _ => none
  | n + 1, l1, l2, s =>
    if 40 ≤ l2 then
      f_X1_mark_h123 ga_fuel l1 0 s
    else
      let s101 : ga_M := ga_pt 44 1848 (l1 + (4 * l2)) (ga_at 22 40 l2 s) s
      let s102 : ga_M := ga_pt 44 1848 ((l1 + (4 * l2)) + 1) (ga_at 24 40 l2 s101) s101
      let s103 : ga_M := ga_pt 44 1848 ((l1 + (4 * l2)) + 2) (ga_at 26 40 l2 s102) s102
      let s104 : ga_M := ga_pt 44 1848 ((l1 + (4 * l2)) + 3) (ga_at 28 40 l2 s103) s103
      let v105 : Int32 := l2 + 1
      f_X1_mark_h11 n l1 v105 s104
def fb_X1_mark (s : ga_M) : Option (ga_M) :=
  (f_X1_baseOf (s 42 3) s).bind fun x1 =>
  f_X1_mark_h11 ga_fuel x1 0 s
theorem fx_X1_mark : ∃ f, f = fb_X1_mark := ⟨_, rfl⟩
def f_X1_mark : ga_M → Option (ga_M) := Classical.choose fx_X1_mark
theorem fe_X1_mark : f_X1_mark = fb_X1_mark := Classical.choose_spec fx_X1_mark

def fb_X3_makeOpen (a : Int32) (s : ga_M) : Option (ga_M) :=
  let s1 : ga_M := ga_pt 24 40 a (-1) s
  let s2 : ga_M := ga_pt 28 40 a 0 s1
  some s2
theorem fx_X3_makeOpen : ∃ f, f = fb_X3_makeOpen := ⟨_, rfl⟩
def f_X3_makeOpen : Int32 → ga_M → Option (ga_M) := Classical.choose fx_X3_makeOpen
theorem fe_X3_makeOpen : f_X3_makeOpen = fb_X3_makeOpen := Classical.choose_spec fx_X3_makeOpen
def vb_X3_makeOpen (a : Int32) (s : ga_M) : ga_M :=
  let s1 : ga_M := ga_pt 24 40 a (-1) s
  let s2 : ga_M := ga_pt 28 40 a 0 s1
  s2
theorem vx_X3_makeOpen : ∃ f, f = vb_X3_makeOpen := ⟨_, rfl⟩
def v_X3_makeOpen : Int32 → ga_M → ga_M := Classical.choose vx_X3_makeOpen
theorem ve_X3_makeOpen : v_X3_makeOpen = vb_X3_makeOpen := Classical.choose_spec vx_X3_makeOpen
theorem e_X3_makeOpen (a : Int32) (s : ga_M) : f_X3_makeOpen a s = some (v_X3_makeOpen a s) := by
  rw [fe_X3_makeOpen, ve_X3_makeOpen]
  unfold fb_X3_makeOpen vb_X3_makeOpen
  rfl

def f_X2_letBeAbsent_h61 : Nat → Int32 → Int32 → Int32 → Int32 → ga_M → Option (Int32 × ga_M)
  | 0, _, _, _, _, _ => none
  | n + 1, l1, l2, l5, l6, s =>
    if (s 1 6) ≤ l6 then
      some (l5, s)
    else
    if (ga_at 24 40 l6 s) = l1 then
      (f_X7_dayOf (ga_at 22 40 l6 s) s).bind fun x102 =>
      if x102 = l2 then
        let s104 : ga_M := v_X3_makeOpen l6 s
        let v105 : Int32 := l5 + 1
        let v106 : Int32 := l6 + 1
        f_X2_letBeAbsent_h61 n l1 l2 v105 v106 s104
      else
        let v103 : Int32 := l6 + 1
        f_X2_letBeAbsent_h61 n l1 l2 l5 v103 s
    else
      let v101 : Int32 := l6 + 1
      f_X2_letBeAbsent_h61 n l1 l2 l5 v101 s
def fb_X2_letBeAbsent (a : Int32) (b : Int32) (c : Int32) (s : ga_M) : Option (Int32 × ga_M) :=
  let v1 : Int32 := (ga_at 30 8 a s)
  if c = 0 then
    let s3 : ga_M := ga_pt 30 8 a (v1 &&& ((1 <<< (b &&& 31)) ^^^ (-1))) s
    some (0, s3)
  else
    let s2 : ga_M := ga_pt 30 8 a (v1 ||| (1 <<< (b &&& 31))) s
    f_X2_letBeAbsent_h61 ga_fuel a b 0 0 s2
theorem fx_X2_letBeAbsent : ∃ f, f = fb_X2_letBeAbsent := ⟨_, rfl⟩
def f_X2_letBeAbsent : Int32 → Int32 → Int32 → ga_M → Option (Int32 × ga_M) := Classical.choose fx_X2_letBeAbsent
theorem fe_X2_letBeAbsent : f_X2_letBeAbsent = fb_X2_letBeAbsent := Classical.choose_spec fx_X2_letBeAbsent

def fb_X1_keepMarked (s : ga_M) : Option (ga_M) :=
  if 10 ≤ (s 42 3) then
    if 11 = 0 then
      none
    else
      let s1 : ga_M := ga_up s 42 2 (((s 42 2) + 1) - ((s 42 2) + 1) / 11 * 11)
      some s1
  else
    let s2 : ga_M := ga_up s 42 3 ((s 42 3) + 1)
    some s2
theorem fx_X1_keepMarked : ∃ f, f = fb_X1_keepMarked := ⟨_, rfl⟩
def f_X1_keepMarked : ga_M → Option (ga_M) := Classical.choose fx_X1_keepMarked
theorem fe_X1_keepMarked : f_X1_keepMarked = fb_X1_keepMarked := Classical.choose_spec fx_X1_keepMarked

def fb_X11_setAbsent (a : Int32) (b : Int32) (c : Int32) (s : ga_M) : Option ((Int32 ⊕ Nat) × ga_M) :=
  Option.elim (v_X11_requireTeacher a s) (
    Option.elim (v_X11_requireDay b s) (
      (f_X1_mark s).bind fun s3 =>
      (f_X2_letBeAbsent a b c s3).bind fun q4 =>
      let v5 : Int32 := q4.1
      (f_X1_keepMarked q4.2).bind fun s6 =>
      some (.inl v5, s6)
    ) fun e2 =>
      some (.inr e2, s)
  ) fun e1 =>
    some (.inr e1, s)
theorem fx_X11_setAbsent : ∃ f, f = fb_X11_setAbsent := ⟨_, rfl⟩
def f_X11_setAbsent : Int32 → Int32 → Int32 → ga_M → Option ((Int32 ⊕ Nat) × ga_M) := Classical.choose fx_X11_setAbsent
theorem fe_X11_setAbsent : f_X11_setAbsent = fb_X11_setAbsent := Classical.choose_spec fx_X11_setAbsent

def fb_X7_hasLesson (a : Int32) (s : ga_M) : Option (Int32) :=
  if a < 0 then
    some 0
  else
  if (s 1 6) ≤ a then
    some 0
  else
    some 1
theorem fx_X7_hasLesson : ∃ f, f = fb_X7_hasLesson := ⟨_, rfl⟩
def f_X7_hasLesson : Int32 → ga_M → Option (Int32) := Classical.choose fx_X7_hasLesson
theorem fe_X7_hasLesson : f_X7_hasLesson = fb_X7_hasLesson := Classical.choose_spec fx_X7_hasLesson
def vb_X7_hasLesson (a : Int32) (s : ga_M) : Int32 :=
  if a < 0 then
    0
  else
  if (s 1 6) ≤ a then
    0
  else
    1
theorem vx_X7_hasLesson : ∃ f, f = vb_X7_hasLesson := ⟨_, rfl⟩
def v_X7_hasLesson : Int32 → ga_M → Int32 := Classical.choose vx_X7_hasLesson
theorem ve_X7_hasLesson : v_X7_hasLesson = vb_X7_hasLesson := Classical.choose_spec vx_X7_hasLesson
theorem e_X7_hasLesson (a : Int32) (s : ga_M) : f_X7_hasLesson a s = some (v_X7_hasLesson a s) := by
  rw [fe_X7_hasLesson, ve_X7_hasLesson]
  unfold fb_X7_hasLesson vb_X7_hasLesson
  (try dsimp only)
  repeat' (first | rfl | split)

def fb_X11_requireLesson (a : Int32) (s : ga_M) : Option (Option Nat) :=
  if (v_X7_hasLesson a s) = 0 then
    some (some 3)
  else
    some none
theorem fx_X11_requireLesson : ∃ f, f = fb_X11_requireLesson := ⟨_, rfl⟩
def f_X11_requireLesson : Int32 → ga_M → Option (Option Nat) := Classical.choose fx_X11_requireLesson
theorem fe_X11_requireLesson : f_X11_requireLesson = fb_X11_requireLesson := Classical.choose_spec fx_X11_requireLesson
def vb_X11_requireLesson (a : Int32) (s : ga_M) : Option Nat :=
  if (v_X7_hasLesson a s) = 0 then
    some 3
  else
    none
theorem vx_X11_requireLesson : ∃ f, f = vb_X11_requireLesson := ⟨_, rfl⟩
def v_X11_requireLesson : Int32 → ga_M → Option Nat := Classical.choose vx_X11_requireLesson
theorem ve_X11_requireLesson : v_X11_requireLesson = vb_X11_requireLesson := Classical.choose_spec vx_X11_requireLesson
theorem e_X11_requireLesson (a : Int32) (s : ga_M) : f_X11_requireLesson a s = some (v_X11_requireLesson a s) := by
  rw [fe_X11_requireLesson, ve_X11_requireLesson]
  unfold fb_X11_requireLesson vb_X11_requireLesson
  (try dsimp only)
  repeat' (first | rfl | split)

def fb_X3_isTaught (a : Int32) (s : ga_M) : Option (Int32) :=
  if (ga_at 24 40 a s) = (-1) then
    some 0
  else
  if (ga_at 28 40 a s) = 0 then
    some 1
  else
    some 0
theorem fx_X3_isTaught : ∃ f, f = fb_X3_isTaught := ⟨_, rfl⟩
def f_X3_isTaught : Int32 → ga_M → Option (Int32) := Classical.choose fx_X3_isTaught
theorem fe_X3_isTaught : f_X3_isTaught = fb_X3_isTaught := Classical.choose_spec fx_X3_isTaught
def vb_X3_isTaught (a : Int32) (s : ga_M) : Int32 :=
  if (ga_at 24 40 a s) = (-1) then
    0
  else
  if (ga_at 28 40 a s) = 0 then
    1
  else
    0
theorem vx_X3_isTaught : ∃ f, f = vb_X3_isTaught := ⟨_, rfl⟩
def v_X3_isTaught : Int32 → ga_M → Int32 := Classical.choose vx_X3_isTaught
theorem ve_X3_isTaught : v_X3_isTaught = vb_X3_isTaught := Classical.choose_spec vx_X3_isTaught
theorem e_X3_isTaught (a : Int32) (s : ga_M) : f_X3_isTaught a s = some (v_X3_isTaught a s) := by
  rw [fe_X3_isTaught, ve_X3_isTaught]
  unfold fb_X3_isTaught vb_X3_isTaught
  (try dsimp only)
  repeat' (first | rfl | split)

def fb_X7_isQualified (a : Int32) (b : Int32) (s : ga_M) : Option (Int32) :=
  if (v_X7_hasTeacher a s) = 0 then
    some 0
  else
  if (v_X11_hasBit (ga_at 7 8 a s) b s) = 0 then
    some 0
  else
    some 1
theorem fx_X7_isQualified : ∃ f, f = fb_X7_isQualified := ⟨_, rfl⟩
def f_X7_isQualified : Int32 → Int32 → ga_M → Option (Int32) := Classical.choose fx_X7_isQualified
theorem fe_X7_isQualified : f_X7_isQualified = fb_X7_isQualified := Classical.choose_spec fx_X7_isQualified
def vb_X7_isQualified (a : Int32) (b : Int32) (s : ga_M) : Int32 :=
  if (v_X7_hasTeacher a s) = 0 then
    0
  else
  if (v_X11_hasBit (ga_at 7 8 a s) b s) = 0 then
    0
  else
    1
theorem vx_X7_isQualified : ∃ f, f = vb_X7_isQualified := ⟨_, rfl⟩
def v_X7_isQualified : Int32 → Int32 → ga_M → Int32 := Classical.choose vx_X7_isQualified
theorem ve_X7_isQualified : v_X7_isQualified = vb_X7_isQualified := Classical.choose_spec vx_X7_isQualified
theorem e_X7_isQualified (a : Int32) (b : Int32) (s : ga_M) : f_X7_isQualified a b s = some (v_X7_isQualified a b s) := by
  rw [fe_X7_isQualified, ve_X7_isQualified]
  unfold fb_X7_isQualified vb_X7_isQualified
  (try dsimp only)
  repeat' (first | rfl | split)

def f_X3_lessonAt_23_h3 : Nat → Int32 → Int32 → Int32 → ga_M → Option (Int32)
  | 0, _, _, _, _ => none
  | n + 1, l1, l3, l4, s =>
    if (s 1 6) ≤ l4 then
      some (-1)
    else
    if (ga_at 22 40 l4 s) = l1 then
      if (ga_at 24 40 l4 s) = l3 then
        some l4
      else
        let v102 : Int32 := l4 + 1
        f_X3_lessonAt_23_h3 n l1 l3 v102 s
    else
      let v101 : Int32 := l4 + 1
      f_X3_lessonAt_23_h3 n l1 l3 v101 s
def fb_X3_lessonAt_23 (a : Int32) (b : Int32) (s : ga_M) : Option (Int32) :=
  f_X3_lessonAt_23_h3 ga_fuel a b 0 s
theorem fx_X3_lessonAt_23 : ∃ f, f = fb_X3_lessonAt_23 := ⟨_, rfl⟩
def f_X3_lessonAt_23 : Int32 → Int32 → ga_M → Option (Int32) := Classical.choose fx_X3_lessonAt_23
theorem fe_X3_lessonAt_23 : f_X3_lessonAt_23 = fb_X3_lessonAt_23 := Classical.choose_spec fx_X3_lessonAt_23

def fb_X4_isBusy (a : Int32) (b : Int32) (s : ga_M) : Option (Int32) :=
  (f_X3_lessonAt_23 b a s).bind fun x1 =>
  if x1 = (-1) then
    some 0
  else
    some 1
theorem fx_X4_isBusy : ∃ f, f = fb_X4_isBusy := ⟨_, rfl⟩
def f_X4_isBusy : Int32 → Int32 → ga_M → Option (Int32) := Classical.choose fx_X4_isBusy
theorem fe_X4_isBusy : f_X4_isBusy = fb_X4_isBusy := Classical.choose_spec fx_X4_isBusy

def f_X3_loadOf_h4 : Nat → Int32 → Int32 → Int32 → ga_M → Option (Int32)
  | 0, _, _, _, _ => none
  | n + 1, l1, l2, l3, s =>
    if (s 1 6) ≤ l3 then
      some l2
    else
    if (ga_at 24 40 l3 s) = l1 then
      if (ga_at 28 40 l3 s) = 0 then
        let v107 : Int32 := l2 + 1
        if (ga_at 17 40 l3 s) = l1 then
          let v109 : Int32 := v107 + (-1)
          let v110 : Int32 := l3 + 1
          f_X3_loadOf_h4 n l1 v109 v110 s
        else
          let v108 : Int32 := l3 + 1
          f_X3_loadOf_h4 n l1 v107 v108 s
      else
      if (ga_at 17 40 l3 s) = l1 then
        let v105 : Int32 := l2 + (-1)
        let v106 : Int32 := l3 + 1
        f_X3_loadOf_h4 n l1 v105 v106 s
      else
        let v104 : Int32 := l3 + 1
        f_X3_loadOf_h4 n l1 l2 v104 s
    else
    if (ga_at 17 40 l3 s) = l1 then
      let v102 : Int32 := l2 + (-1)
      let v103 : Int32 := l3 + 1
      f_X3_loadOf_h4 n l1 v102 v103 s
    else
      let v101 : Int32 := l3 + 1
      f_X3_loadOf_h4 n l1 l2 v101 s
def fb_X3_loadOf (a : Int32) (s : ga_M) : Option (Int32) :=
  f_X3_loadOf_h4 ga_fuel a 0 0 s
theorem fx_X3_loadOf : ∃ f, f = fb_X3_loadOf := ⟨_, rfl⟩
def f_X3_loadOf : Int32 → ga_M → Option (Int32) := Classical.choose fx_X3_loadOf
theorem fe_X3_loadOf : f_X3_loadOf = fb_X3_loadOf := Classical.choose_spec fx_X3_loadOf

def fb_X4_againstCover (a : Int32) (b : Int32) (s : ga_M) : Option (Int32) :=
  let v1 : Int32 := (ga_at 22 40 a s)
  if (v_X3_isTaught a s) = 0 then
    (f_X3_isAwayAt b v1 s).bind fun x2 =>
    if x2 = 0 then
      if (v_X7_isQualified b (ga_at 13 40 a s) s) = 0 then
        some 3
      else
        (f_X4_isBusy b v1 s).bind fun x3 =>
        if x3 = 0 then
          (f_X3_loadOf b s).bind fun x4 =>
          if x4 < (ga_at 5 8 b s) then
            some 0
          else
            some 5
        else
          some 4
    else
      some 2
  else
    some 1
theorem fx_X4_againstCover : ∃ f, f = fb_X4_againstCover := ⟨_, rfl⟩
def f_X4_againstCover : Int32 → Int32 → ga_M → Option (Int32) := Classical.choose fx_X4_againstCover
theorem fe_X4_againstCover : f_X4_againstCover = fb_X4_againstCover := Classical.choose_spec fx_X4_againstCover

def fb_X3_letTeach (a : Int32) (b : Int32) (s : ga_M) : Option (ga_M) :=
  let s1 : ga_M := ga_pt 24 40 a b s
  let s2 : ga_M := ga_pt 28 40 a 0 s1
  some s2
theorem fx_X3_letTeach : ∃ f, f = fb_X3_letTeach := ⟨_, rfl⟩
def f_X3_letTeach : Int32 → Int32 → ga_M → Option (ga_M) := Classical.choose fx_X3_letTeach
theorem fe_X3_letTeach : f_X3_letTeach = fb_X3_letTeach := Classical.choose_spec fx_X3_letTeach
def vb_X3_letTeach (a : Int32) (b : Int32) (s : ga_M) : ga_M :=
  let s1 : ga_M := ga_pt 24 40 a b s
  let s2 : ga_M := ga_pt 28 40 a 0 s1
  s2
theorem vx_X3_letTeach : ∃ f, f = vb_X3_letTeach := ⟨_, rfl⟩
def v_X3_letTeach : Int32 → Int32 → ga_M → ga_M := Classical.choose vx_X3_letTeach
theorem ve_X3_letTeach : v_X3_letTeach = vb_X3_letTeach := Classical.choose_spec vx_X3_letTeach
theorem e_X3_letTeach (a : Int32) (b : Int32) (s : ga_M) : f_X3_letTeach a b s = some (v_X3_letTeach a b s) := by
  rw [fe_X3_letTeach, ve_X3_letTeach]
  unfold fb_X3_letTeach vb_X3_letTeach
  rfl

def fb_X2_letCover (a : Int32) (b : Int32) (s : ga_M) : Option (Int32 × ga_M) :=
  (f_X4_againstCover a b s).bind fun x1 =>
  if x1 = 0 then
    let s2 : ga_M := v_X3_letTeach a b s
    some (1, s2)
  else
    some (0, s)
theorem fx_X2_letCover : ∃ f, f = fb_X2_letCover := ⟨_, rfl⟩
def f_X2_letCover : Int32 → Int32 → ga_M → Option (Int32 × ga_M) := Classical.choose fx_X2_letCover
theorem fe_X2_letCover : f_X2_letCover = fb_X2_letCover := Classical.choose_spec fx_X2_letCover

def fb_X11_keepUnlessRefused (a : Int32) (s : ga_M) : Option (Option Nat × ga_M) :=
  if a = 0 then
    some (some 1, s)
  else
    (f_X1_keepMarked s).bind fun s1 =>
    some (none, s1)
theorem fx_X11_keepUnlessRefused : ∃ f, f = fb_X11_keepUnlessRefused := ⟨_, rfl⟩
def f_X11_keepUnlessRefused : Int32 → ga_M → Option (Option Nat × ga_M) := Classical.choose fx_X11_keepUnlessRefused
theorem fe_X11_keepUnlessRefused : f_X11_keepUnlessRefused = fb_X11_keepUnlessRefused := Classical.choose_spec fx_X11_keepUnlessRefused

def fb_X11_cover (a : Int32) (b : Int32) (s : ga_M) : Option ((Int32 ⊕ Nat) × ga_M) :=
  Option.elim (v_X11_requireLesson a s) (
    Option.elim (v_X11_requireTeacher b s) (
      (f_X1_mark s).bind fun s3 =>
      (f_X2_letCover a b s3).bind fun q4 =>
      (f_X11_keepUnlessRefused (q4.1) q4.2).bind fun q5 =>
      Option.elim q5.1 (
        (f_X3_loadOf b q5.2).bind fun x7 =>
        some (.inl x7, q5.2)
      ) fun e6 =>
        some (.inr e6, q5.2)
    ) fun e2 =>
      some (.inr e2, s)
  ) fun e1 =>
    some (.inr e1, s)
theorem fx_X11_cover : ∃ f, f = fb_X11_cover := ⟨_, rfl⟩
def f_X11_cover : Int32 → Int32 → ga_M → Option ((Int32 ⊕ Nat) × ga_M) := Classical.choose fx_X11_cover
theorem fe_X11_cover : f_X11_cover = fb_X11_cover := Classical.choose_spec fx_X11_cover

def fb_X3_isOpen (a : Int32) (s : ga_M) : Option (Int32) :=
  if (ga_at 24 40 a s) = (-1) then
    some 1
  else
    some 0
theorem fx_X3_isOpen : ∃ f, f = fb_X3_isOpen := ⟨_, rfl⟩
def f_X3_isOpen : Int32 → ga_M → Option (Int32) := Classical.choose fx_X3_isOpen
theorem fe_X3_isOpen : f_X3_isOpen = fb_X3_isOpen := Classical.choose_spec fx_X3_isOpen
def vb_X3_isOpen (a : Int32) (s : ga_M) : Int32 :=
  if (ga_at 24 40 a s) = (-1) then
    1
  else
    0
theorem vx_X3_isOpen : ∃ f, f = vb_X3_isOpen := ⟨_, rfl⟩
def v_X3_isOpen : Int32 → ga_M → Int32 := Classical.choose vx_X3_isOpen
theorem ve_X3_isOpen : v_X3_isOpen = vb_X3_isOpen := Classical.choose_spec vx_X3_isOpen
theorem e_X3_isOpen (a : Int32) (s : ga_M) : f_X3_isOpen a s = some (v_X3_isOpen a s) := by
  rw [fe_X3_isOpen, ve_X3_isOpen]
  unfold fb_X3_isOpen vb_X3_isOpen
  (try dsimp only)
  repeat' (first | rfl | split)

def fb_X3_isSupervised (a : Int32) (s : ga_M) : Option (Int32) :=
  if (ga_at 28 40 a s) = 1 then
    some 1
  else
    some 0
theorem fx_X3_isSupervised : ∃ f, f = fb_X3_isSupervised := ⟨_, rfl⟩
def f_X3_isSupervised : Int32 → ga_M → Option (Int32) := Classical.choose fx_X3_isSupervised
theorem fe_X3_isSupervised : f_X3_isSupervised = fb_X3_isSupervised := Classical.choose_spec fx_X3_isSupervised
def vb_X3_isSupervised (a : Int32) (s : ga_M) : Int32 :=
  if (ga_at 28 40 a s) = 1 then
    1
  else
    0
theorem vx_X3_isSupervised : ∃ f, f = vb_X3_isSupervised := ⟨_, rfl⟩
def v_X3_isSupervised : Int32 → ga_M → Int32 := Classical.choose vx_X3_isSupervised
theorem ve_X3_isSupervised : v_X3_isSupervised = vb_X3_isSupervised := Classical.choose_spec vx_X3_isSupervised
theorem e_X3_isSupervised (a : Int32) (s : ga_M) : f_X3_isSupervised a s = some (v_X3_isSupervised a s) := by
  rw [fe_X3_isSupervised, ve_X3_isSupervised]
  unfold fb_X3_isSupervised vb_X3_isSupervised
  (try dsimp only)
  repeat' (first | rfl | split)

def f_X3_dutiesOn_h5 : Nat → Int32 → Int32 → Int32 → Int32 → ga_M → Option (Int32)
  | 0, _, _, _, _, _ => none
  | n + 1, l1, l2, l3, l4, s =>
    if (s 1 6) ≤ l4 then
      some l3
    else
    if (ga_at 24 40 l4 s) = l1 then
      if (v_X3_isSupervised l4 s) = 0 then
        let v102 : Int32 := l4 + 1
        f_X3_dutiesOn_h5 n l1 l2 l3 v102 s
      else
        (f_X7_dayOf (ga_at 22 40 l4 s) s).bind fun x103 =>
        if x103 = l2 then
          let v105 : Int32 := l3 + 1
          let v106 : Int32 := l4 + 1
          f_X3_dutiesOn_h5 n l1 l2 v105 v106 s
        else
          let v104 : Int32 := l4 + 1
          f_X3_dutiesOn_h5 n l1 l2 l3 v104 s
    else
      let v101 : Int32 := l4 + 1
      f_X3_dutiesOn_h5 n l1 l2 l3 v101 s
def fb_X3_dutiesOn (a : Int32) (b : Int32) (s : ga_M) : Option (Int32) :=
  f_X3_dutiesOn_h5 ga_fuel a b 0 0 s
theorem fx_X3_dutiesOn : ∃ f, f = fb_X3_dutiesOn := ⟨_, rfl⟩
def f_X3_dutiesOn : Int32 → Int32 → ga_M → Option (Int32) := Classical.choose fx_X3_dutiesOn
theorem fe_X3_dutiesOn : f_X3_dutiesOn = fb_X3_dutiesOn := Classical.choose_spec fx_X3_dutiesOn

def fb_X4_againstSupervision (a : Int32) (b : Int32) (s : ga_M) : Option (Int32) :=
  let v1 : Int32 := (ga_at 22 40 a s)
  if (v_X3_isOpen a s) = 0 then
    some 1
  else
    (f_X3_isAwayAt b v1 s).bind fun x2 =>
    if x2 = 0 then
      (f_X4_isBusy b v1 s).bind fun x3 =>
      if x3 = 0 then
        (f_X7_dayOf v1 s).bind fun x4 =>
        (f_X3_dutiesOn b x4 s).bind fun x5 =>
        if x5 < 2 then
          some 0
        else
          some 6
      else
        some 4
    else
      some 2
theorem fx_X4_againstSupervision : ∃ f, f = fb_X4_againstSupervision := ⟨_, rfl⟩
def f_X4_againstSupervision : Int32 → Int32 → ga_M → Option (Int32) := Classical.choose fx_X4_againstSupervision
theorem fe_X4_againstSupervision : f_X4_againstSupervision = fb_X4_againstSupervision := Classical.choose_spec fx_X4_againstSupervision

def fb_X3_letWatch (a : Int32) (b : Int32) (s : ga_M) : Option (ga_M) :=
  let s1 : ga_M := ga_pt 24 40 a b s
  let s2 : ga_M := ga_pt 28 40 a 1 s1
  some s2
theorem fx_X3_letWatch : ∃ f, f = fb_X3_letWatch := ⟨_, rfl⟩
def f_X3_letWatch : Int32 → Int32 → ga_M → Option (ga_M) := Classical.choose fx_X3_letWatch
theorem fe_X3_letWatch : f_X3_letWatch = fb_X3_letWatch := Classical.choose_spec fx_X3_letWatch
def vb_X3_letWatch (a : Int32) (b : Int32) (s : ga_M) : ga_M :=
  let s1 : ga_M := ga_pt 24 40 a b s
  let s2 : ga_M := ga_pt 28 40 a 1 s1
  s2
theorem vx_X3_letWatch : ∃ f, f = vb_X3_letWatch := ⟨_, rfl⟩
def v_X3_letWatch : Int32 → Int32 → ga_M → ga_M := Classical.choose vx_X3_letWatch
theorem ve_X3_letWatch : v_X3_letWatch = vb_X3_letWatch := Classical.choose_spec vx_X3_letWatch
theorem e_X3_letWatch (a : Int32) (b : Int32) (s : ga_M) : f_X3_letWatch a b s = some (v_X3_letWatch a b s) := by
  rw [fe_X3_letWatch, ve_X3_letWatch]
  unfold fb_X3_letWatch vb_X3_letWatch
  rfl

def fb_X2_letSupervise (a : Int32) (b : Int32) (s : ga_M) : Option (Int32 × ga_M) :=
  (f_X4_againstSupervision a b s).bind fun x1 =>
  if x1 = 0 then
    let s2 : ga_M := v_X3_letWatch a b s
    some (1, s2)
  else
    some (0, s)
theorem fx_X2_letSupervise : ∃ f, f = fb_X2_letSupervise := ⟨_, rfl⟩
def f_X2_letSupervise : Int32 → Int32 → ga_M → Option (Int32 × ga_M) := Classical.choose fx_X2_letSupervise
theorem fe_X2_letSupervise : f_X2_letSupervise = fb_X2_letSupervise := Classical.choose_spec fx_X2_letSupervise

def f_X3_dutiesOf_h4 : Nat → Int32 → Int32 → Int32 → ga_M → Option (Int32)
  | 0, _, _, _, _ => none
  | n + 1, l1, l2, l3, s =>
    if (s 1 6) ≤ l3 then
      some l2
    else
    if (ga_at 24 40 l3 s) = l1 then
      if (v_X3_isSupervised l3 s) = 0 then
        let v102 : Int32 := l3 + 1
        f_X3_dutiesOf_h4 n l1 l2 v102 s
      else
        let v103 : Int32 := l2 + 1
        let v104 : Int32 := l3 + 1
        f_X3_dutiesOf_h4 n l1 v103 v104 s
    else
      let v101 : Int32 := l3 + 1
      f_X3_dutiesOf_h4 n l1 l2 v101 s
def fb_X3_dutiesOf (a : Int32) (s : ga_M) : Option (Int32) :=
  f_X3_dutiesOf_h4 ga_fuel a 0 0 s
theorem fx_X3_dutiesOf : ∃ f, f = fb_X3_dutiesOf := ⟨_, rfl⟩
def f_X3_dutiesOf : Int32 → ga_M → Option (Int32) := Classical.choose fx_X3_dutiesOf
theorem fe_X3_dutiesOf : f_X3_dutiesOf = fb_X3_dutiesOf := Classical.choose_spec fx_X3_dutiesOf

def fb_X11_supervise (a : Int32) (b : Int32) (s : ga_M) : Option ((Int32 ⊕ Nat) × ga_M) :=
  Option.elim (v_X11_requireLesson a s) (
    Option.elim (v_X11_requireTeacher b s) (
      (f_X1_mark s).bind fun s3 =>
      (f_X2_letSupervise a b s3).bind fun q4 =>
      (f_X11_keepUnlessRefused (q4.1) q4.2).bind fun q5 =>
      Option.elim q5.1 (
        (f_X3_dutiesOf b q5.2).bind fun x7 =>
        some (.inl x7, q5.2)
      ) fun e6 =>
        some (.inr e6, q5.2)
    ) fun e2 =>
      some (.inr e2, s)
  ) fun e1 =>
    some (.inr e1, s)
theorem fx_X11_supervise : ∃ f, f = fb_X11_supervise := ⟨_, rfl⟩
def f_X11_supervise : Int32 → Int32 → ga_M → Option ((Int32 ⊕ Nat) × ga_M) := Classical.choose fx_X11_supervise
theorem fe_X11_supervise : f_X11_supervise = fb_X11_supervise := Classical.choose_spec fx_X11_supervise

def f_X0_presentAt_h14 : Nat → Int32 → Int32 → Int32 → ga_M → Option (Int32)
  | 0, _, _, _, _ => none
  | n + 1, l2, l3, l4, s =>
    if (s 1 3) ≤ l4 then
      some l3
    else
    if (v_X3_isAway l4 l2 s) = 0 then
      let v102 : Int32 := (l3 ||| (1 <<< (l4 &&& 31)))
      let v103 : Int32 := l4 + 1
      f_X0_presentAt_h14 n l2 v102 v103 s
    else
      let v101 : Int32 := l4 + 1
      f_X0_presentAt_h14 n l2 l3 v101 s
def fb_X0_presentAt (a : Int32) (s : ga_M) : Option (Int32) :=
  (f_X7_dayOf a s).bind fun x1 =>
  f_X0_presentAt_h14 ga_fuel x1 0 0 s
theorem fx_X0_presentAt : ∃ f, f = fb_X0_presentAt := ⟨_, rfl⟩
def f_X0_presentAt : Int32 → ga_M → Option (Int32) := Classical.choose fx_X0_presentAt
theorem fe_X0_presentAt : f_X0_presentAt = fb_X0_presentAt := Classical.choose_spec fx_X0_presentAt

def f_X7_qualifiedFor_h4 : Nat → Int32 → Int32 → Int32 → ga_M → Option (Int32)
  | 0, _, _, _, _ => none
  | n + 1, l1, l2, l3, s =>
    if (s 1 3) ≤ l3 then
      some l2
    else
    if (v_X11_hasBit (ga_at 7 8 l3 s) l1 s) = 0 then
      let v101 : Int32 := l3 + 1
      f_X7_qualifiedFor_h4 n l1 l2 v101 s
    else
      let v102 : Int32 := (l2 ||| (1 <<< (l3 &&& 31)))
      let v103 : Int32 := l3 + 1
      f_X7_qualifiedFor_h4 n l1 v102 v103 s
def fb_X7_qualifiedFor (a : Int32) (s : ga_M) : Option (Int32) :=
  f_X7_qualifiedFor_h4 ga_fuel a 0 0 s
theorem fx_X7_qualifiedFor : ∃ f, f = fb_X7_qualifiedFor := ⟨_, rfl⟩
def f_X7_qualifiedFor : Int32 → ga_M → Option (Int32) := Classical.choose fx_X7_qualifiedFor
theorem fe_X7_qualifiedFor : f_X7_qualifiedFor = fb_X7_qualifiedFor := Classical.choose_spec fx_X7_qualifiedFor

def f_X0_busyAt_h28 : Nat → Int32 → Int32 → Int32 → Int32 → ga_M → Option (Int32 × ga_M)
  | 0, _, _, _, _, _ => none
  | n + 1, l1, l2, l3, l4, s =>
    if (s 1 6) ≤ l4 then
      some (l3, s)
    else
    if (ga_at 22 40 l4 s) = l1 then
      if (v_X3_isOpen l4 s) = 0 then
        let v203 : Int32 := (l3 ||| (1 <<< ((ga_at 24 40 l4 s) &&& 31)))
        if (v_X3_isTaught l4 s) = 0 then
          let v204 : Int32 := l4 + 1
          f_X0_busyAt_h28 n l1 l2 v203 v204 s
        else
          (f_X7_qualifiedFor (ga_at 13 40 l4 s) s).bind fun x205 =>
          let s206 : ga_M := ga_pt 34 8 (ga_at 24 40 l4 s) (l2 &&& x205) s
          let v207 : Int32 := l4 + 1
          f_X0_busyAt_h28 n l1 l2 v203 v207 s206
      else
        let v202 : Int32 := l4 + 1
        f_X0_busyAt_h28 n l1 l2 l3 v202 s
    else
      let v201 : Int32 := l4 + 1
      f_X0_busyAt_h28 n l1 l2 l3 v201 s
def f_X0_busyAt_h2 : Nat → Int32 → Int32 → Int32 → ga_M → Option (Int32 × ga_M)
  | 0, _, _, _, _ => none
  | n + 1, l1, l2, l3, s =>
    if 8 ≤ l3 then
      f_X0_busyAt_h28 ga_fuel l1 l2 0 0 s
    else
      let s101 : ga_M := ga_pt 34 8 l3 0 s
      let v102 : Int32 := l3 + 1
      f_X0_busyAt_h2 n l1 l2 v102 s101
def fb_X0_busyAt (a : Int32) (b : Int32) (s : ga_M) : Option (Int32 × ga_M) :=
  f_X0_busyAt_h2 ga_fuel a b 0 s
theorem fx_X0_busyAt : ∃ f, f = fb_X0_busyAt := ⟨_, rfl⟩
def f_X0_busyAt : Int32 → Int32 → ga_M → Option (Int32 × ga_M) := Classical.choose fx_X0_busyAt
theorem fe_X0_busyAt : f_X0_busyAt = fb_X0_busyAt := Classical.choose_spec fx_X0_busyAt

def f_X0_leastLoaded_h7 : Nat → Int32 → Int32 → Int32 → Int32 → ga_M → Option (Int32)
  | 0, _, _, _, _, _ => none
  | n + 1, l1, l2, l3, l4, s =>
    if (s 1 3) ≤ l4 then
      some l2
    else
    if (v_X11_hasBit l1 l4 s) = 0 then
      let v101 : Int32 := l4 + 1
      f_X0_leastLoaded_h7 n l1 l2 l3 v101 s
    else
      (f_X3_loadOf l4 s).bind fun x102 =>
      if (ga_at 5 8 l4 s) ≤ x102 then
        let v103 : Int32 := l4 + 1
        f_X0_leastLoaded_h7 n l1 l2 l3 v103 s
      else
      if l2 = 0 then
        if l2 = 0 then
          let v104 : Int32 := (1 <<< (l4 &&& 31))
          let v105 : Int32 := l4 + 1
          f_X0_leastLoaded_h7 n l1 v104 x102 v105 s
        else
        if x102 = l3 then
          let v108 : Int32 := (l2 ||| (1 <<< (l4 &&& 31)))
          let v109 : Int32 := l4 + 1
          f_X0_leastLoaded_h7 n l1 v108 x102 v109 s
        else
          let v106 : Int32 := (1 <<< (l4 &&& 31))
          let v107 : Int32 := l4 + 1
          f_X0_leastLoaded_h7 n l1 v106 x102 v107 s
      else
      if l3 < x102 then
        let v110 : Int32 := l4 + 1
        f_X0_leastLoaded_h7 n l1 l2 l3 v110 s
      else
      if l2 = 0 then
        let v111 : Int32 := (1 <<< (l4 &&& 31))
        let v112 : Int32 := l4 + 1
        f_X0_leastLoaded_h7 n l1 v111 x102 v112 s
      else
      if x102 = l3 then
        let v115 : Int32 := (l2 ||| (1 <<< (l4 &&& 31)))
        let v116 : Int32 := l4 + 1
        f_X0_leastLoaded_h7 n l1 v115 x102 v116 s
      else
        let v113 : Int32 := (1 <<< (l4 &&& 31))
        let v114 : Int32 := l4 + 1
        f_X0_leastLoaded_h7 n l1 v113 x102 v114 s
def fb_X0_leastLoaded (a : Int32) (s : ga_M) : Option (Int32) :=
  f_X0_leastLoaded_h7 ga_fuel a 0 0 0 s
theorem fx_X0_leastLoaded : ∃ f, f = fb_X0_leastLoaded := ⟨_, rfl⟩
def f_X0_leastLoaded : Int32 → ga_M → Option (Int32) := Classical.choose fx_X0_leastLoaded
theorem fe_X0_leastLoaded : f_X0_leastLoaded = fb_X0_leastLoaded := Classical.choose_spec fx_X0_leastLoaded

def f_X0_successorsOf_h4 : Nat → Int32 → Int32 → Int32 → ga_M → Option (Int32)
  | 0, _, _, _, _ => none
  | n + 1, l1, l2, l3, s =>
    if (s 1 3) ≤ l3 then
      some l2
    else
    if (v_X11_hasBit l1 l3 s) = 0 then
      let v101 : Int32 := l3 + 1
      f_X0_successorsOf_h4 n l1 l2 v101 s
    else
      let v102 : Int32 := (l2 ||| (ga_at 34 8 l3 s))
      let v103 : Int32 := l3 + 1
      f_X0_successorsOf_h4 n l1 v102 v103 s
def fb_X0_successorsOf (a : Int32) (s : ga_M) : Option (Int32) :=
  f_X0_successorsOf_h4 ga_fuel a 0 0 s
theorem fx_X0_successorsOf : ∃ f, f = fb_X0_successorsOf := ⟨_, rfl⟩
def f_X0_successorsOf : Int32 → ga_M → Option (Int32) := Classical.choose fx_X0_successorsOf
theorem fe_X0_successorsOf : f_X0_successorsOf = fb_X0_successorsOf := Classical.choose_spec fx_X0_successorsOf

def f_X0_thoseBefore_h5 : Nat → Int32 → Int32 → Int32 → Int32 → ga_M → Option (Int32)
  | 0, _, _, _, _, _ => none
  | n + 1, l1, l2, l3, l4, s =>
    if (s 1 3) ≤ l4 then
      some l3
    else
    if (v_X11_hasBit l2 l4 s) = 0 then
      let v101 : Int32 := l4 + 1
      f_X0_thoseBefore_h5 n l1 l2 l3 v101 s
    else
    if ((ga_at 34 8 l4 s) &&& l1) = 0 then
      let v102 : Int32 := l4 + 1
      f_X0_thoseBefore_h5 n l1 l2 l3 v102 s
    else
      let v103 : Int32 := (l3 ||| (1 <<< (l4 &&& 31)))
      let v104 : Int32 := l4 + 1
      f_X0_thoseBefore_h5 n l1 l2 v103 v104 s
def fb_X0_thoseBefore (a : Int32) (b : Int32) (s : ga_M) : Option (Int32) :=
  f_X0_thoseBefore_h5 ga_fuel a b 0 0 s
theorem fx_X0_thoseBefore : ∃ f, f = fb_X0_thoseBefore := ⟨_, rfl⟩
def f_X0_thoseBefore : Int32 → Int32 → ga_M → Option (Int32) := Classical.choose fx_X0_thoseBefore
theorem fe_X0_thoseBefore : f_X0_thoseBefore = fb_X0_thoseBefore := Classical.choose_spec fx_X0_thoseBefore

def f_X0_lowest_h2 : Nat → Int32 → Int32 → ga_M → Option (Int32)
  | 0, _, _, _ => none
  | n + 1, l1, l2, s =>
    if 8 ≤ l2 then
      some (-1)
    else
    if (v_X11_hasBit l1 l2 s) = 0 then
      let v101 : Int32 := l2 + 1
      f_X0_lowest_h2 n l1 v101 s
    else
      some l2
def fb_X0_lowest (a : Int32) (s : ga_M) : Option (Int32) :=
  f_X0_lowest_h2 ga_fuel a 0 s
theorem fx_X0_lowest : ∃ f, f = fb_X0_lowest := ⟨_, rfl⟩
def f_X0_lowest : Int32 → ga_M → Option (Int32) := Classical.choose fx_X0_lowest
theorem fe_X0_lowest : f_X0_lowest = fb_X0_lowest := Classical.choose_spec fx_X0_lowest

def f_X0_choose_h72 : Nat → Int32 → Int32 → ga_M → Option (ga_M)
  | 0, _, _, _ => none
  | n + 1, l2, l3, s =>
    if (s 32 6) ≤ l3 then
      some s
    else
      (f_X0_lowest (l2 &&& (ga_at 38 4 l3 s)) s).bind fun x201 =>
      let s202 : ga_M := ga_pt 40 4 l3 x201 s
      let v203 : Int32 := (ga_at 34 8 x201 s202)
      let v204 : Int32 := l3 + 1
      f_X0_choose_h72 n v203 v204 s202
def f_X0_choose_h21 : Nat → Int32 → ga_M → Option (ga_M)
  | 0, _, _ => none
  | n + 1, l2, s =>
    if l2 < 0 then
      let v101 : Int32 := (ga_at 36 4 0 s)
      f_X0_choose_h72 ga_fuel v101 0 s
    else
      (f_X0_thoseBefore (ga_at 38 4 (l2 + 1) s) (ga_at 36 4 l2 s) s).bind fun x102 =>
      let s103 : ga_M := ga_pt 38 4 l2 x102 s
      let v104 : Int32 := l2 + (-1)
      f_X0_choose_h21 n v104 s103
def fb_X0_choose (a : Int32) (s : ga_M) : Option (ga_M) :=
  let s1 : ga_M := ga_pt 38 4 ((s 32 6) - 1) a s
  let v2 : Int32 := ((s1 32 6) - 2)
  f_X0_choose_h21 ga_fuel v2 s1
theorem fx_X0_choose : ∃ f, f = fb_X0_choose := ⟨_, rfl⟩
def f_X0_choose : Int32 → ga_M → Option (ga_M) := Classical.choose fx_X0_choose
theorem fe_X0_choose : f_X0_choose = fb_X0_choose := Classical.choose_spec fx_X0_choose

def f_X0_find_h73 : Nat → Int32 → Int32 → Int32 → ga_M → Option (Int32 × ga_M)
  | 0, _, _, _, _ => none
  | n + 1, l4, l5, l6, s =>
    if 4 ≤ l6 then
      some ((s 32 6), s)
    else
    if (s 32 6) = 0 then
      let s101 : ga_M := ga_pt 36 4 l6 l5 s
      (f_X0_leastLoaded (l5 &&& l4) s101).bind fun x102 =>
      if x102 = 0 then
        (f_X0_successorsOf l5 s101).bind fun x103 =>
        let v104 : Int32 := l6 + 1
        f_X0_find_h73 n l4 x103 v104 s101
      else
        let s105 : ga_M := ga_up s101 32 6 (l6 + 1)
        (f_X0_choose x102 s105).bind fun s106 =>
        (f_X0_successorsOf l5 s106).bind fun x107 =>
        let v108 : Int32 := l6 + 1
        f_X0_find_h73 n l4 x107 v108 s106
    else
      some ((s 32 6), s)
def fb_X0_find (a : Int32) (s : ga_M) : Option (Int32 × ga_M) :=
  let s1 : ga_M := ga_up s 32 6 0
  if (v_X3_isOpen a s1) = 0 then
    some (0, s1)
  else
    let v2 : Int32 := (ga_at 22 40 a s1)
    (f_X0_presentAt v2 s1).bind fun x3 =>
    (f_X0_busyAt v2 x3 s1).bind fun q4 =>
    let v5 : Int32 := (x3 &&& (q4.1 ^^^ (-1)))
    (f_X7_qualifiedFor (ga_at 13 40 a q4.2) q4.2).bind fun x6 =>
    let v7 : Int32 := (x3 &&& x6)
    f_X0_find_h73 ga_fuel v5 v7 0 q4.2
theorem fx_X0_find : ∃ f, f = fb_X0_find := ⟨_, rfl⟩
def f_X0_find : Int32 → ga_M → Option (Int32 × ga_M) := Classical.choose fx_X0_find
theorem fe_X0_find : f_X0_find = fb_X0_find := Classical.choose_spec fx_X0_find

def f_X2_repairByChain_h27 : Nat → Int32 → Int32 → Int32 → Int32 → ga_M → Option (Int32 × ga_M)
  | 0, _, _, _, _, _ => none
  | n + 1, l2, l3, l4, l5, s =>
    if l2 ≤ l5 then
      if l2 ≤ 0 then
        some (0, s)
      else
        some (1, s)
    else
      let v101 : Int32 := (ga_at 40 4 l5 s)
      (f_X3_lessonAt_23 l3 v101 s).bind fun x102 =>
      let s103 : ga_M := v_X3_letTeach l4 v101 s
      let v104 : Int32 := l5 + 1
      f_X2_repairByChain_h27 n l2 l3 x102 v104 s103
def fb_X2_repairByChain (a : Int32) (s : ga_M) : Option (Int32 × ga_M) :=
  (f_X0_find a s).bind fun q1 =>
  let v2 : Int32 := q1.1
  let v3 : Int32 := (ga_at 22 40 a q1.2)
  f_X2_repairByChain_h27 ga_fuel v2 v3 a 0 q1.2
theorem fx_X2_repairByChain : ∃ f, f = fb_X2_repairByChain := ⟨_, rfl⟩
def f_X2_repairByChain : Int32 → ga_M → Option (Int32 × ga_M) := Classical.choose fx_X2_repairByChain
theorem fe_X2_repairByChain : f_X2_repairByChain = fb_X2_repairByChain := Classical.choose_spec fx_X2_repairByChain

def fb_X11_repair (a : Int32) (s : ga_M) : Option ((Int32 ⊕ Nat) × ga_M) :=
  Option.elim (v_X11_requireLesson a s) (
    (f_X1_mark s).bind fun s2 =>
    (f_X2_repairByChain a s2).bind fun q3 =>
    (f_X11_keepUnlessRefused (q3.1) q3.2).bind fun q4 =>
    Option.elim q4.1 (
      some (.inl (q4.2 32 6), q4.2)
    ) fun e5 =>
      some (.inr e5, q4.2)
  ) fun e1 =>
    some (.inr e1, s)
theorem fx_X11_repair : ∃ f, f = fb_X11_repair := ⟨_, rfl⟩
def f_X11_repair : Int32 → ga_M → Option ((Int32 ⊕ Nat) × ga_M) := Classical.choose fx_X11_repair
theorem fe_X11_repair : f_X11_repair = fb_X11_repair := Classical.choose_spec fx_X11_repair

def f_X2_repairOpenLessons_h4 : Nat → Int32 → Int32 → ga_M → Option (Int32 × ga_M)
  | 0, _, _, _ => none
  | n + 1, l1, l2, s =>
    if (s 1 6) ≤ l2 then
      some (l1, s)
    else
      (f_X2_repairByChain l2 s).bind fun q101 =>
      if q101.1 = 0 then
        let v102 : Int32 := l2 + 1
        f_X2_repairOpenLessons_h4 n l1 v102 q101.2
      else
        let v103 : Int32 := l1 + 1
        let v104 : Int32 := l2 + 1
        f_X2_repairOpenLessons_h4 n v103 v104 q101.2
def fb_X2_repairOpenLessons (s : ga_M) : Option (Int32 × ga_M) :=
  f_X2_repairOpenLessons_h4 ga_fuel 0 0 s
theorem fx_X2_repairOpenLessons : ∃ f, f = fb_X2_repairOpenLessons := ⟨_, rfl⟩
def f_X2_repairOpenLessons : ga_M → Option (Int32 × ga_M) := Classical.choose fx_X2_repairOpenLessons
theorem fe_X2_repairOpenLessons : f_X2_repairOpenLessons = fb_X2_repairOpenLessons := Classical.choose_spec fx_X2_repairOpenLessons

def fb_X11_repairAll (s : ga_M) : Option (Int32 × ga_M) :=
  (f_X1_mark s).bind fun s1 =>
  (f_X2_repairOpenLessons s1).bind fun q2 =>
  let v3 : Int32 := q2.1
  (f_X1_keepMarked q2.2).bind fun s4 =>
  some (v3, s4)
theorem fx_X11_repairAll : ∃ f, f = fb_X11_repairAll := ⟨_, rfl⟩
def f_X11_repairAll : ga_M → Option (Int32 × ga_M) := Classical.choose fx_X11_repairAll
theorem fe_X11_repairAll : f_X11_repairAll = fb_X11_repairAll := Classical.choose_spec fx_X11_repairAll

def fb_X4_isTeacherAwayAt (a : Int32) (b : Int32) (s : ga_M) : Option (Int32) :=
  (f_X3_isAwayAt (ga_at 24 40 a s) b s).bind fun x1 =>
  some x1
theorem fx_X4_isTeacherAwayAt : ∃ f, f = fb_X4_isTeacherAwayAt := ⟨_, rfl⟩
def f_X4_isTeacherAwayAt : Int32 → Int32 → ga_M → Option (Int32) := Classical.choose fx_X4_isTeacherAwayAt
theorem fe_X4_isTeacherAwayAt : f_X4_isTeacherAwayAt = fb_X4_isTeacherAwayAt := Classical.choose_spec fx_X4_isTeacherAwayAt

def fb_X4_isHeldByThird_23 (a : Int32) (b : Int32) (s : ga_M) : Option (Int32) :=
  (f_X3_lessonAt_23 (ga_at 22 40 b s) (ga_at 24 40 a s) s).bind fun x1 =>
  if x1 = (-1) then
    some 0
  else
  if x1 = a then
    some 0
  else
  if x1 = b then
    some 0
  else
    some 1
theorem fx_X4_isHeldByThird_23 : ∃ f, f = fb_X4_isHeldByThird_23 := ⟨_, rfl⟩
def f_X4_isHeldByThird_23 : Int32 → Int32 → ga_M → Option (Int32) := Classical.choose fx_X4_isHeldByThird_23
theorem fe_X4_isHeldByThird_23 : f_X4_isHeldByThird_23 = fb_X4_isHeldByThird_23 := Classical.choose_spec fx_X4_isHeldByThird_23

def f_X3_lessonAt_25_h3 : Nat → Int32 → Int32 → Int32 → ga_M → Option (Int32)
  | 0, _, _, _, _ => none
  | n + 1, l1, l3, l4, s =>
    if (s 1 6) ≤ l4 then
      some (-1)
    else
    if (ga_at 22 40 l4 s) = l1 then
      if (ga_at 26 40 l4 s) = l3 then
        some l4
      else
        let v102 : Int32 := l4 + 1
        f_X3_lessonAt_25_h3 n l1 l3 v102 s
    else
      let v101 : Int32 := l4 + 1
      f_X3_lessonAt_25_h3 n l1 l3 v101 s
def fb_X3_lessonAt_25 (a : Int32) (b : Int32) (s : ga_M) : Option (Int32) :=
  f_X3_lessonAt_25_h3 ga_fuel a b 0 s
theorem fx_X3_lessonAt_25 : ∃ f, f = fb_X3_lessonAt_25 := ⟨_, rfl⟩
def f_X3_lessonAt_25 : Int32 → Int32 → ga_M → Option (Int32) := Classical.choose fx_X3_lessonAt_25
theorem fe_X3_lessonAt_25 : f_X3_lessonAt_25 = fb_X3_lessonAt_25 := Classical.choose_spec fx_X3_lessonAt_25

def fb_X4_isHeldByThird_25 (a : Int32) (b : Int32) (s : ga_M) : Option (Int32) :=
  (f_X3_lessonAt_25 (ga_at 22 40 b s) (ga_at 26 40 a s) s).bind fun x1 =>
  if x1 = (-1) then
    some 0
  else
  if x1 = a then
    some 0
  else
  if x1 = b then
    some 0
  else
    some 1
theorem fx_X4_isHeldByThird_25 : ∃ f, f = fb_X4_isHeldByThird_25 := ⟨_, rfl⟩
def f_X4_isHeldByThird_25 : Int32 → Int32 → ga_M → Option (Int32) := Classical.choose fx_X4_isHeldByThird_25
theorem fe_X4_isHeldByThird_25 : f_X4_isHeldByThird_25 = fb_X4_isHeldByThird_25 := Classical.choose_spec fx_X4_isHeldByThird_25

def fb_X4_againstExchange (a : Int32) (b : Int32) (s : ga_M) : Option (Int32) :=
  if (ga_at 11 40 a s) = (ga_at 11 40 b s) then
    if (ga_at 22 40 a s) = (ga_at 22 40 b s) then
      some 2
    else
    if (v_X3_isOpen a s) = 0 then
      if (v_X3_isOpen b s) = 0 then
        (f_X4_isTeacherAwayAt a (ga_at 22 40 b s) s).bind fun x1 =>
        if x1 = 0 then
          (f_X4_isTeacherAwayAt b (ga_at 22 40 a s) s).bind fun x2 =>
          if x2 = 0 then
            (f_X4_isHeldByThird_23 a b s).bind fun x3 =>
            if x3 = 0 then
              (f_X4_isHeldByThird_23 b a s).bind fun x4 =>
              if x4 = 0 then
                (f_X4_isHeldByThird_25 a b s).bind fun x5 =>
                if x5 = 0 then
                  (f_X4_isHeldByThird_25 b a s).bind fun x6 =>
                  if x6 = 0 then
                    some 0
                  else
                    some 6
                else
                  some 6
              else
                some 5
            else
              some 5
          else
            some 4
        else
          some 4
      else
        some 3
    else
      some 3
  else
    some 1
theorem fx_X4_againstExchange : ∃ f, f = fb_X4_againstExchange := ⟨_, rfl⟩
def f_X4_againstExchange : Int32 → Int32 → ga_M → Option (Int32) := Classical.choose fx_X4_againstExchange
theorem fe_X4_againstExchange : f_X4_againstExchange = fb_X4_againstExchange := Classical.choose_spec fx_X4_againstExchange

def fb_X2_swapSlots (a : Int32) (b : Int32) (s : ga_M) : Option (Int32 × ga_M) :=
  (f_X4_againstExchange a b s).bind fun x1 =>
  if x1 = 0 then
    let v2 : Int32 := (ga_at 22 40 a s)
    let s3 : ga_M := ga_pt 22 40 a (ga_at 22 40 b s) s
    let s4 : ga_M := ga_pt 22 40 b v2 s3
    some (1, s4)
  else
    some (0, s)
theorem fx_X2_swapSlots : ∃ f, f = fb_X2_swapSlots := ⟨_, rfl⟩
def f_X2_swapSlots : Int32 → Int32 → ga_M → Option (Int32 × ga_M) := Classical.choose fx_X2_swapSlots
theorem fe_X2_swapSlots : f_X2_swapSlots = fb_X2_swapSlots := Classical.choose_spec fx_X2_swapSlots

def fb_X11_exchange (a : Int32) (b : Int32) (s : ga_M) : Option ((Int32 ⊕ Nat) × ga_M) :=
  Option.elim (v_X11_requireLesson a s) (
    Option.elim (v_X11_requireLesson b s) (
      (f_X1_mark s).bind fun s3 =>
      (f_X2_swapSlots a b s3).bind fun q4 =>
      (f_X11_keepUnlessRefused (q4.1) q4.2).bind fun q5 =>
      Option.elim q5.1 (
        some (.inl (ga_at 22 40 a q5.2), q5.2)
      ) fun e6 =>
        some (.inr e6, q5.2)
    ) fun e2 =>
      some (.inr e2, s)
  ) fun e1 =>
    some (.inr e1, s)
theorem fx_X11_exchange : ∃ f, f = fb_X11_exchange := ⟨_, rfl⟩
def f_X11_exchange : Int32 → Int32 → ga_M → Option ((Int32 ⊕ Nat) × ga_M) := Classical.choose fx_X11_exchange
theorem fe_X11_exchange : f_X11_exchange = fb_X11_exchange := Classical.choose_spec fx_X11_exchange

def fb_X7_slots (s : ga_M) : Option (Int32) :=
  some (((s 1 0) * (s 1 1)))
theorem fx_X7_slots : ∃ f, f = fb_X7_slots := ⟨_, rfl⟩
def f_X7_slots : ga_M → Option (Int32) := Classical.choose fx_X7_slots
theorem fe_X7_slots : f_X7_slots = fb_X7_slots := Classical.choose_spec fx_X7_slots
def vb_X7_slots (s : ga_M) : Int32 :=
  ((s 1 0) * (s 1 1))
theorem vx_X7_slots : ∃ f, f = vb_X7_slots := ⟨_, rfl⟩
def v_X7_slots : ga_M → Int32 := Classical.choose vx_X7_slots
theorem ve_X7_slots : v_X7_slots = vb_X7_slots := Classical.choose_spec vx_X7_slots
theorem e_X7_slots (s : ga_M) : f_X7_slots s = some (v_X7_slots s) := by
  rw [fe_X7_slots, ve_X7_slots]
  unfold fb_X7_slots vb_X7_slots
  rfl

def fb_X7_hasSlot (a : Int32) (s : ga_M) : Option (Int32) :=
  if a < 0 then
    some 0
  else
  if (v_X7_slots s) ≤ a then
    some 0
  else
    some 1
theorem fx_X7_hasSlot : ∃ f, f = fb_X7_hasSlot := ⟨_, rfl⟩
def f_X7_hasSlot : Int32 → ga_M → Option (Int32) := Classical.choose fx_X7_hasSlot
theorem fe_X7_hasSlot : f_X7_hasSlot = fb_X7_hasSlot := Classical.choose_spec fx_X7_hasSlot
def vb_X7_hasSlot (a : Int32) (s : ga_M) : Int32 :=
  if a < 0 then
    0
  else
  if (v_X7_slots s) ≤ a then
    0
  else
    1
theorem vx_X7_hasSlot : ∃ f, f = vb_X7_hasSlot := ⟨_, rfl⟩
def v_X7_hasSlot : Int32 → ga_M → Int32 := Classical.choose vx_X7_hasSlot
theorem ve_X7_hasSlot : v_X7_hasSlot = vb_X7_hasSlot := Classical.choose_spec vx_X7_hasSlot
theorem e_X7_hasSlot (a : Int32) (s : ga_M) : f_X7_hasSlot a s = some (v_X7_hasSlot a s) := by
  rw [fe_X7_hasSlot, ve_X7_hasSlot]
  unfold fb_X7_hasSlot vb_X7_hasSlot
  (try dsimp only)
  repeat' (first | rfl | split)

def fb_X11_requireSlot (a : Int32) (s : ga_M) : Option (Option Nat) :=
  if (v_X7_hasSlot a s) = 0 then
    some (some 3)
  else
    some none
theorem fx_X11_requireSlot : ∃ f, f = fb_X11_requireSlot := ⟨_, rfl⟩
def f_X11_requireSlot : Int32 → ga_M → Option (Option Nat) := Classical.choose fx_X11_requireSlot
theorem fe_X11_requireSlot : f_X11_requireSlot = fb_X11_requireSlot := Classical.choose_spec fx_X11_requireSlot
def vb_X11_requireSlot (a : Int32) (s : ga_M) : Option Nat :=
  if (v_X7_hasSlot a s) = 0 then
    some 3
  else
    none
theorem vx_X11_requireSlot : ∃ f, f = vb_X11_requireSlot := ⟨_, rfl⟩
def v_X11_requireSlot : Int32 → ga_M → Option Nat := Classical.choose vx_X11_requireSlot
theorem ve_X11_requireSlot : v_X11_requireSlot = vb_X11_requireSlot := Classical.choose_spec vx_X11_requireSlot
theorem e_X11_requireSlot (a : Int32) (s : ga_M) : f_X11_requireSlot a s = some (v_X11_requireSlot a s) := by
  rw [fe_X11_requireSlot, ve_X11_requireSlot]
  unfold fb_X11_requireSlot vb_X11_requireSlot
  (try dsimp only)
  repeat' (first | rfl | split)

def f_X3_lessonAt_10_h3 : Nat → Int32 → Int32 → Int32 → ga_M → Option (Int32)
  | 0, _, _, _, _ => none
  | n + 1, l1, l3, l4, s =>
    if (s 1 6) ≤ l4 then
      some (-1)
    else
    if (ga_at 22 40 l4 s) = l1 then
      if (ga_at 11 40 l4 s) = l3 then
        some l4
      else
        let v102 : Int32 := l4 + 1
        f_X3_lessonAt_10_h3 n l1 l3 v102 s
    else
      let v101 : Int32 := l4 + 1
      f_X3_lessonAt_10_h3 n l1 l3 v101 s
def fb_X3_lessonAt_10 (a : Int32) (b : Int32) (s : ga_M) : Option (Int32) :=
  f_X3_lessonAt_10_h3 ga_fuel a b 0 s
theorem fx_X3_lessonAt_10 : ∃ f, f = fb_X3_lessonAt_10 := ⟨_, rfl⟩
def f_X3_lessonAt_10 : Int32 → Int32 → ga_M → Option (Int32) := Classical.choose fx_X3_lessonAt_10
theorem fe_X3_lessonAt_10 : f_X3_lessonAt_10 = fb_X3_lessonAt_10 := Classical.choose_spec fx_X3_lessonAt_10

def fb_X4_againstMove (a : Int32) (b : Int32) (s : ga_M) : Option (Int32) :=
  if (ga_at 22 40 a s) = b then
    some 2
  else
    (f_X3_lessonAt_10 b (ga_at 11 40 a s) s).bind fun x1 =>
    if x1 = (-1) then
      if (v_X3_isOpen a s) = 0 then
        (f_X4_isTeacherAwayAt a b s).bind fun x5 =>
        if x5 = 0 then
          if (v_X3_isOpen a s) = 0 then
            (f_X4_isBusy (ga_at 24 40 a s) b s).bind fun x7 =>
            if x7 = 0 then
              (f_X3_lessonAt_25 b (ga_at 26 40 a s) s).bind fun x8 =>
              if x8 = (-1) then
                some 0
              else
                some 6
            else
              some 5
          else
            (f_X3_lessonAt_25 b (ga_at 26 40 a s) s).bind fun x6 =>
            if x6 = (-1) then
              some 0
            else
              some 6
        else
          some 4
      else
      if (v_X3_isOpen a s) = 0 then
        (f_X4_isBusy (ga_at 24 40 a s) b s).bind fun x3 =>
        if x3 = 0 then
          (f_X3_lessonAt_25 b (ga_at 26 40 a s) s).bind fun x4 =>
          if x4 = (-1) then
            some 0
          else
            some 6
        else
          some 5
      else
        (f_X3_lessonAt_25 b (ga_at 26 40 a s) s).bind fun x2 =>
        if x2 = (-1) then
          some 0
        else
          some 6
    else
      some 1
theorem fx_X4_againstMove : ∃ f, f = fb_X4_againstMove := ⟨_, rfl⟩
def f_X4_againstMove : Int32 → Int32 → ga_M → Option (Int32) := Classical.choose fx_X4_againstMove
theorem fe_X4_againstMove : f_X4_againstMove = fb_X4_againstMove := Classical.choose_spec fx_X4_againstMove

def fb_X2_moveToSlot (a : Int32) (b : Int32) (s : ga_M) : Option (Int32 × ga_M) :=
  (f_X4_againstMove a b s).bind fun x1 =>
  if x1 = 0 then
    let s2 : ga_M := ga_pt 22 40 a b s
    some (1, s2)
  else
    some (0, s)
theorem fx_X2_moveToSlot : ∃ f, f = fb_X2_moveToSlot := ⟨_, rfl⟩
def f_X2_moveToSlot : Int32 → Int32 → ga_M → Option (Int32 × ga_M) := Classical.choose fx_X2_moveToSlot
theorem fe_X2_moveToSlot : f_X2_moveToSlot = fb_X2_moveToSlot := Classical.choose_spec fx_X2_moveToSlot

def fb_X11_move (a : Int32) (b : Int32) (s : ga_M) : Option ((Int32 ⊕ Nat) × ga_M) :=
  Option.elim (v_X11_requireLesson a s) (
    Option.elim (v_X11_requireSlot b s) (
      let v3 : Int32 := (ga_at 22 40 a s)
      (f_X1_mark s).bind fun s4 =>
      (f_X2_moveToSlot a b s4).bind fun q5 =>
      (f_X11_keepUnlessRefused (q5.1) q5.2).bind fun q6 =>
      Option.elim q6.1 (
        some (.inl v3, q6.2)
      ) fun e7 =>
        some (.inr e7, q6.2)
    ) fun e2 =>
      some (.inr e2, s)
  ) fun e1 =>
    some (.inr e1, s)
theorem fx_X11_move : ∃ f, f = fb_X11_move := ⟨_, rfl⟩
def f_X11_move : Int32 → Int32 → ga_M → Option ((Int32 ⊕ Nat) × ga_M) := Classical.choose fx_X11_move
theorem fe_X11_move : f_X11_move = fb_X11_move := Classical.choose_spec fx_X11_move

def fb_X7_hasRoom (a : Int32) (s : ga_M) : Option (Int32) :=
  if a < 0 then
    some 0
  else
  if (s 1 4) ≤ a then
    some 0
  else
    some 1
theorem fx_X7_hasRoom : ∃ f, f = fb_X7_hasRoom := ⟨_, rfl⟩
def f_X7_hasRoom : Int32 → ga_M → Option (Int32) := Classical.choose fx_X7_hasRoom
theorem fe_X7_hasRoom : f_X7_hasRoom = fb_X7_hasRoom := Classical.choose_spec fx_X7_hasRoom
def vb_X7_hasRoom (a : Int32) (s : ga_M) : Int32 :=
  if a < 0 then
    0
  else
  if (s 1 4) ≤ a then
    0
  else
    1
theorem vx_X7_hasRoom : ∃ f, f = vb_X7_hasRoom := ⟨_, rfl⟩
def v_X7_hasRoom : Int32 → ga_M → Int32 := Classical.choose vx_X7_hasRoom
theorem ve_X7_hasRoom : v_X7_hasRoom = vb_X7_hasRoom := Classical.choose_spec vx_X7_hasRoom
theorem e_X7_hasRoom (a : Int32) (s : ga_M) : f_X7_hasRoom a s = some (v_X7_hasRoom a s) := by
  rw [fe_X7_hasRoom, ve_X7_hasRoom]
  unfold fb_X7_hasRoom vb_X7_hasRoom
  (try dsimp only)
  repeat' (first | rfl | split)

def fb_X11_requireRoom (a : Int32) (s : ga_M) : Option (Option Nat) :=
  if (v_X7_hasRoom a s) = 0 then
    some (some 3)
  else
    some none
theorem fx_X11_requireRoom : ∃ f, f = fb_X11_requireRoom := ⟨_, rfl⟩
def f_X11_requireRoom : Int32 → ga_M → Option (Option Nat) := Classical.choose fx_X11_requireRoom
theorem fe_X11_requireRoom : f_X11_requireRoom = fb_X11_requireRoom := Classical.choose_spec fx_X11_requireRoom
def vb_X11_requireRoom (a : Int32) (s : ga_M) : Option Nat :=
  if (v_X7_hasRoom a s) = 0 then
    some 3
  else
    none
theorem vx_X11_requireRoom : ∃ f, f = vb_X11_requireRoom := ⟨_, rfl⟩
def v_X11_requireRoom : Int32 → ga_M → Option Nat := Classical.choose vx_X11_requireRoom
theorem ve_X11_requireRoom : v_X11_requireRoom = vb_X11_requireRoom := Classical.choose_spec vx_X11_requireRoom
theorem e_X11_requireRoom (a : Int32) (s : ga_M) : f_X11_requireRoom a s = some (v_X11_requireRoom a s) := by
  rw [fe_X11_requireRoom, ve_X11_requireRoom]
  unfold fb_X11_requireRoom vb_X11_requireRoom
  (try dsimp only)
  repeat' (first | rfl | split)

def fb_X4_againstRoom (a : Int32) (b : Int32) (s : ga_M) : Option (Int32) :=
  if (ga_at 26 40 a s) = b then
    some 2
  else
  if (ga_at 9 6 b s) = (ga_at 3 6 (ga_at 13 40 a s) s) then
    (f_X3_lessonAt_25 (ga_at 22 40 a s) b s).bind fun x1 =>
    if x1 = (-1) then
      some 0
    else
      some 6
  else
    some 7
theorem fx_X4_againstRoom : ∃ f, f = fb_X4_againstRoom := ⟨_, rfl⟩
def f_X4_againstRoom : Int32 → Int32 → ga_M → Option (Int32) := Classical.choose fx_X4_againstRoom
theorem fe_X4_againstRoom : f_X4_againstRoom = fb_X4_againstRoom := Classical.choose_spec fx_X4_againstRoom

def fb_X2_moveToRoom (a : Int32) (b : Int32) (s : ga_M) : Option (Int32 × ga_M) :=
  (f_X4_againstRoom a b s).bind fun x1 =>
  if x1 = 0 then
    let s2 : ga_M := ga_pt 26 40 a b s
    some (1, s2)
  else
    some (0, s)
theorem fx_X2_moveToRoom : ∃ f, f = fb_X2_moveToRoom := ⟨_, rfl⟩
def f_X2_moveToRoom : Int32 → Int32 → ga_M → Option (Int32 × ga_M) := Classical.choose fx_X2_moveToRoom
theorem fe_X2_moveToRoom : f_X2_moveToRoom = fb_X2_moveToRoom := Classical.choose_spec fx_X2_moveToRoom

def fb_X11_setRoom (a : Int32) (b : Int32) (s : ga_M) : Option ((Int32 ⊕ Nat) × ga_M) :=
  Option.elim (v_X11_requireLesson a s) (
    Option.elim (v_X11_requireRoom b s) (
      let v3 : Int32 := (ga_at 26 40 a s)
      (f_X1_mark s).bind fun s4 =>
      (f_X2_moveToRoom a b s4).bind fun q5 =>
      (f_X11_keepUnlessRefused (q5.1) q5.2).bind fun q6 =>
      Option.elim q6.1 (
        some (.inl v3, q6.2)
      ) fun e7 =>
        some (.inr e7, q6.2)
    ) fun e2 =>
      some (.inr e2, s)
  ) fun e1 =>
    some (.inr e1, s)
theorem fx_X11_setRoom : ∃ f, f = fb_X11_setRoom := ⟨_, rfl⟩
def f_X11_setRoom : Int32 → Int32 → ga_M → Option ((Int32 ⊕ Nat) × ga_M) := Classical.choose fx_X11_setRoom
theorem fe_X11_setRoom : f_X11_setRoom = fb_X11_setRoom := Classical.choose_spec fx_X11_setRoom

def fb_X2_openAgain (a : Int32) (s : ga_M) : Option (Int32 × ga_M) :=
  if (v_X3_isOpen a s) = 0 then
    let s1 : ga_M := v_X3_makeOpen a s
    some (1, s1)
  else
    some (0, s)
theorem fx_X2_openAgain : ∃ f, f = fb_X2_openAgain := ⟨_, rfl⟩
def f_X2_openAgain : Int32 → ga_M → Option (Int32 × ga_M) := Classical.choose fx_X2_openAgain
theorem fe_X2_openAgain : f_X2_openAgain = fb_X2_openAgain := Classical.choose_spec fx_X2_openAgain
def vb_X2_openAgain (a : Int32) (s : ga_M) : Int32 × ga_M :=
  if (v_X3_isOpen a s) = 0 then
    let s1 : ga_M := v_X3_makeOpen a s
    (1, s1)
  else
    (0, s)
theorem vx_X2_openAgain : ∃ f, f = vb_X2_openAgain := ⟨_, rfl⟩
def v_X2_openAgain : Int32 → ga_M → Int32 × ga_M := Classical.choose vx_X2_openAgain
theorem ve_X2_openAgain : v_X2_openAgain = vb_X2_openAgain := Classical.choose_spec vx_X2_openAgain
theorem e_X2_openAgain (a : Int32) (s : ga_M) : f_X2_openAgain a s = some (v_X2_openAgain a s) := by
  rw [fe_X2_openAgain, ve_X2_openAgain]
  unfold fb_X2_openAgain vb_X2_openAgain
  (try dsimp only)
  repeat' (first | rfl | split)

def fb_X11_reopen (a : Int32) (s : ga_M) : Option ((Int32 ⊕ Nat) × ga_M) :=
  Option.elim (v_X11_requireLesson a s) (
    let v2 : Int32 := (ga_at 24 40 a s)
    (f_X1_mark s).bind fun s3 =>
    let q4 : Int32 × ga_M := v_X2_openAgain a s3
    (f_X11_keepUnlessRefused (q4.1) q4.2).bind fun q5 =>
    Option.elim q5.1 (
      some (.inl v2, q5.2)
    ) fun e6 =>
      some (.inr e6, q5.2)
  ) fun e1 =>
    some (.inr e1, s)
theorem fx_X11_reopen : ∃ f, f = fb_X11_reopen := ⟨_, rfl⟩
def f_X11_reopen : Int32 → ga_M → Option ((Int32 ⊕ Nat) × ga_M) := Classical.choose fx_X11_reopen
theorem fe_X11_reopen : f_X11_reopen = fb_X11_reopen := Classical.choose_spec fx_X11_reopen

def fb_X3_differs (a : Int32) (s : ga_M) : Option (Int32) :=
  if (ga_at 22 40 a s) = (ga_at 15 40 a s) then
    if (ga_at 24 40 a s) = (ga_at 17 40 a s) then
      if (ga_at 26 40 a s) = (ga_at 19 40 a s) then
        if (v_X3_isSupervised a s) = 0 then
          some 0
        else
          some 1
      else
        some 1
    else
      some 1
  else
    some 1
theorem fx_X3_differs : ∃ f, f = fb_X3_differs := ⟨_, rfl⟩
def f_X3_differs : Int32 → ga_M → Option (Int32) := Classical.choose fx_X3_differs
theorem fe_X3_differs : f_X3_differs = fb_X3_differs := Classical.choose_spec fx_X3_differs
def vb_X3_differs (a : Int32) (s : ga_M) : Int32 :=
  if (ga_at 22 40 a s) = (ga_at 15 40 a s) then
    if (ga_at 24 40 a s) = (ga_at 17 40 a s) then
      if (ga_at 26 40 a s) = (ga_at 19 40 a s) then
        if (v_X3_isSupervised a s) = 0 then
          0
        else
          1
      else
        1
    else
      1
  else
    1
theorem vx_X3_differs : ∃ f, f = vb_X3_differs := ⟨_, rfl⟩
def v_X3_differs : Int32 → ga_M → Int32 := Classical.choose vx_X3_differs
theorem ve_X3_differs : v_X3_differs = vb_X3_differs := Classical.choose_spec vx_X3_differs
theorem e_X3_differs (a : Int32) (s : ga_M) : f_X3_differs a s = some (v_X3_differs a s) := by
  rw [fe_X3_differs, ve_X3_differs]
  unfold fb_X3_differs vb_X3_differs
  (try dsimp only)
  repeat' (first | rfl | split)

def f_X3_differingLessons_h4 : Nat → Int32 → Int32 → ga_M → Option (Int32)
  | 0, _, _, _ => none
  | n + 1, l1, l2, s =>
    if (s 1 6) ≤ l2 then
      some l1
    else
    if (v_X3_differs l2 s) = 0 then
      let v101 : Int32 := l2 + 1
      f_X3_differingLessons_h4 n l1 v101 s
    else
      let v102 : Int32 := l1 + 1
      let v103 : Int32 := l2 + 1
      f_X3_differingLessons_h4 n v102 v103 s
def fb_X3_differingLessons (s : ga_M) : Option (Int32) :=
  f_X3_differingLessons_h4 ga_fuel 0 0 s
theorem fx_X3_differingLessons : ∃ f, f = fb_X3_differingLessons := ⟨_, rfl⟩
def f_X3_differingLessons : ga_M → Option (Int32) := Classical.choose fx_X3_differingLessons
theorem fe_X3_differingLessons : f_X3_differingLessons = fb_X3_differingLessons := Classical.choose_spec fx_X3_differingLessons

def fb_X11_reset (s : ga_M) : Option (Int32 × ga_M) :=
  (f_X3_differingLessons s).bind fun x1 =>
  (f_X1_mark s).bind fun s2 =>
  (f_X3_returnToFirst s2).bind fun s3 =>
  (f_X1_keepMarked s3).bind fun s4 =>
  some (x1, s4)
theorem fx_X11_reset : ∃ f, f = fb_X11_reset := ⟨_, rfl⟩
def f_X11_reset : ga_M → Option (Int32 × ga_M) := Classical.choose fx_X11_reset
theorem fe_X11_reset : f_X11_reset = fb_X11_reset := Classical.choose_spec fx_X11_reset

def fb_X11_whyNotCover (a : Int32) (b : Int32) (s : ga_M) : Option (Int32 ⊕ Nat) :=
  Option.elim (v_X11_requireLesson a s) (
    Option.elim (v_X11_requireTeacher b s) (
      (f_X4_againstCover a b s).bind fun x3 =>
      some (.inl x3)
    ) fun e2 =>
      some (.inr e2)
  ) fun e1 =>
    some (.inr e1)
theorem fx_X11_whyNotCover : ∃ f, f = fb_X11_whyNotCover := ⟨_, rfl⟩
def f_X11_whyNotCover : Int32 → Int32 → ga_M → Option (Int32 ⊕ Nat) := Classical.choose fx_X11_whyNotCover
theorem fe_X11_whyNotCover : f_X11_whyNotCover = fb_X11_whyNotCover := Classical.choose_spec fx_X11_whyNotCover

def fb_X11_whyNotSupervise (a : Int32) (b : Int32) (s : ga_M) : Option (Int32 ⊕ Nat) :=
  Option.elim (v_X11_requireLesson a s) (
    Option.elim (v_X11_requireTeacher b s) (
      (f_X4_againstSupervision a b s).bind fun x3 =>
      some (.inl x3)
    ) fun e2 =>
      some (.inr e2)
  ) fun e1 =>
    some (.inr e1)
theorem fx_X11_whyNotSupervise : ∃ f, f = fb_X11_whyNotSupervise := ⟨_, rfl⟩
def f_X11_whyNotSupervise : Int32 → Int32 → ga_M → Option (Int32 ⊕ Nat) := Classical.choose fx_X11_whyNotSupervise
theorem fe_X11_whyNotSupervise : f_X11_whyNotSupervise = fb_X11_whyNotSupervise := Classical.choose_spec fx_X11_whyNotSupervise

def fb_X11_whyNotExchange (a : Int32) (b : Int32) (s : ga_M) : Option (Int32 ⊕ Nat) :=
  Option.elim (v_X11_requireLesson a s) (
    Option.elim (v_X11_requireLesson b s) (
      (f_X4_againstExchange a b s).bind fun x3 =>
      some (.inl x3)
    ) fun e2 =>
      some (.inr e2)
  ) fun e1 =>
    some (.inr e1)
theorem fx_X11_whyNotExchange : ∃ f, f = fb_X11_whyNotExchange := ⟨_, rfl⟩
def f_X11_whyNotExchange : Int32 → Int32 → ga_M → Option (Int32 ⊕ Nat) := Classical.choose fx_X11_whyNotExchange
theorem fe_X11_whyNotExchange : f_X11_whyNotExchange = fb_X11_whyNotExchange := Classical.choose_spec fx_X11_whyNotExchange

def fb_X11_whyNotRoom (a : Int32) (b : Int32) (s : ga_M) : Option (Int32 ⊕ Nat) :=
  Option.elim (v_X11_requireLesson a s) (
    Option.elim (v_X11_requireRoom b s) (
      (f_X4_againstRoom a b s).bind fun x3 =>
      some (.inl x3)
    ) fun e2 =>
      some (.inr e2)
  ) fun e1 =>
    some (.inr e1)
theorem fx_X11_whyNotRoom : ∃ f, f = fb_X11_whyNotRoom := ⟨_, rfl⟩
def f_X11_whyNotRoom : Int32 → Int32 → ga_M → Option (Int32 ⊕ Nat) := Classical.choose fx_X11_whyNotRoom
theorem fe_X11_whyNotRoom : f_X11_whyNotRoom = fb_X11_whyNotRoom := Classical.choose_spec fx_X11_whyNotRoom

def f_X11_candidates_h9 : Nat → Int32 → Int32 → Int32 → ga_M → Option (Int32 ⊕ Nat)
  | 0, _, _, _, _ => none
  | n + 1, l1, l2, l3, s =>
    if (s 1 3) ≤ l3 then
      some (.inl l2)
    else
      (f_X4_againstCover l1 l3 s).bind fun x101 =>
      if x101 = 0 then
        let v103 : Int32 := (l2 ||| (1 <<< (l3 &&& 31)))
        let v104 : Int32 := l3 + 1
        f_X11_candidates_h9 n l1 v103 v104 s
      else
        let v102 : Int32 := l3 + 1
        f_X11_candidates_h9 n l1 l2 v102 s
def fb_X11_candidates (a : Int32) (s : ga_M) : Option (Int32 ⊕ Nat) :=
  Option.elim (v_X11_requireLesson a s) (
    f_X11_candidates_h9 ga_fuel a 0 0 s
  ) fun e1 =>
    some (.inr e1)
theorem fx_X11_candidates : ∃ f, f = fb_X11_candidates := ⟨_, rfl⟩
def f_X11_candidates : Int32 → ga_M → Option (Int32 ⊕ Nat) := Classical.choose fx_X11_candidates
theorem fe_X11_candidates : f_X11_candidates = fb_X11_candidates := Classical.choose_spec fx_X11_candidates

def fb_X11_chain (a : Int32) (s : ga_M) : Option ((Int32 ⊕ Nat) × ga_M) :=
  Option.elim (v_X11_requireLesson a s) (
    (f_X0_find a s).bind fun q2 =>
    some (.inl q2.1, q2.2)
  ) fun e1 =>
    some (.inr e1, s)
theorem fx_X11_chain : ∃ f, f = fb_X11_chain := ⟨_, rfl⟩
def f_X11_chain : Int32 → ga_M → Option ((Int32 ⊕ Nat) × ga_M) := Classical.choose fx_X11_chain
theorem fe_X11_chain : f_X11_chain = fb_X11_chain := Classical.choose_spec fx_X11_chain

def fb_X11_chainTeacher (a : Int32) (b : Int32) (s : ga_M) : Option ((Int32 ⊕ Nat) × ga_M) :=
  Option.elim (v_X11_requireLesson a s) (
    (f_X0_find a s).bind fun q2 =>
    let v3 : Int32 := q2.1
    if b < 0 then
      some (.inr 4, q2.2)
    else
    if b < v3 then
      some (.inl (ga_at 40 4 b q2.2), q2.2)
    else
      some (.inr 4, q2.2)
  ) fun e1 =>
    some (.inr e1, s)
theorem fx_X11_chainTeacher : ∃ f, f = fb_X11_chainTeacher := ⟨_, rfl⟩
def f_X11_chainTeacher : Int32 → Int32 → ga_M → Option ((Int32 ⊕ Nat) × ga_M) := Classical.choose fx_X11_chainTeacher
theorem fe_X11_chainTeacher : f_X11_chainTeacher = fb_X11_chainTeacher := Classical.choose_spec fx_X11_chainTeacher

def f_X11_slotsFor_h9 : Nat → Int32 → Int32 → Int32 → ga_M → Option (Int32 ⊕ Nat)
  | 0, _, _, _, _ => none
  | n + 1, l1, l2, l3, s =>
    if (v_X7_slots s) ≤ l3 then
      some (.inl l2)
    else
      (f_X4_againstMove l1 l3 s).bind fun x101 =>
      if x101 = 0 then
        let v103 : Int32 := (l2 ||| (1 <<< (l3 &&& 31)))
        let v104 : Int32 := l3 + 1
        f_X11_slotsFor_h9 n l1 v103 v104 s
      else
        let v102 : Int32 := l3 + 1
        f_X11_slotsFor_h9 n l1 l2 v102 s
def fb_X11_slotsFor (a : Int32) (s : ga_M) : Option (Int32 ⊕ Nat) :=
  Option.elim (v_X11_requireLesson a s) (
    f_X11_slotsFor_h9 ga_fuel a 0 0 s
  ) fun e1 =>
    some (.inr e1)
theorem fx_X11_slotsFor : ∃ f, f = fb_X11_slotsFor := ⟨_, rfl⟩
def f_X11_slotsFor : Int32 → ga_M → Option (Int32 ⊕ Nat) := Classical.choose fx_X11_slotsFor
theorem fe_X11_slotsFor : f_X11_slotsFor = fb_X11_slotsFor := Classical.choose_spec fx_X11_slotsFor

def f_X7_lessonsWith_27_h5 : Nat → Int32 → Int32 → Int32 → ga_M → Option (Int32)
  | 0, _, _, _, _ => none
  | n + 1, l2, l3, l4, s =>
    if (s 1 6) ≤ l4 then
      some l3
    else
    if (ga_at 28 40 l4 s) = l2 then
      let v102 : Int32 := l3 + 1
      let v103 : Int32 := l4 + 1
      f_X7_lessonsWith_27_h5 n l2 v102 v103 s
    else
      let v101 : Int32 := l4 + 1
      f_X7_lessonsWith_27_h5 n l2 l3 v101 s
def fb_X7_lessonsWith_27 (a : Int32) (s : ga_M) : Option (Int32) :=
  f_X7_lessonsWith_27_h5 ga_fuel a 0 0 s
theorem fx_X7_lessonsWith_27 : ∃ f, f = fb_X7_lessonsWith_27 := ⟨_, rfl⟩
def f_X7_lessonsWith_27 : Int32 → ga_M → Option (Int32) := Classical.choose fx_X7_lessonsWith_27
theorem fe_X7_lessonsWith_27 : f_X7_lessonsWith_27 = fb_X7_lessonsWith_27 := Classical.choose_spec fx_X7_lessonsWith_27

def fb_X3_supervisedLessons (s : ga_M) : Option (Int32) :=
  (f_X7_lessonsWith_27 1 s).bind fun x1 =>
  some x1
theorem fx_X3_supervisedLessons : ∃ f, f = fb_X3_supervisedLessons := ⟨_, rfl⟩
def f_X3_supervisedLessons : ga_M → Option (Int32) := Classical.choose fx_X3_supervisedLessons
theorem fe_X3_supervisedLessons : f_X3_supervisedLessons = fb_X3_supervisedLessons := Classical.choose_spec fx_X3_supervisedLessons

def f_X7_lessonsWith_23_h5 : Nat → Int32 → Int32 → Int32 → ga_M → Option (Int32)
  | 0, _, _, _, _ => none
  | n + 1, l2, l3, l4, s =>
    if (s 1 6) ≤ l4 then
      some l3
    else
    if (ga_at 24 40 l4 s) = l2 then
      let v102 : Int32 := l3 + 1
      let v103 : Int32 := l4 + 1
      f_X7_lessonsWith_23_h5 n l2 v102 v103 s
    else
      let v101 : Int32 := l4 + 1
      f_X7_lessonsWith_23_h5 n l2 l3 v101 s
def fb_X7_lessonsWith_23 (a : Int32) (s : ga_M) : Option (Int32) :=
  f_X7_lessonsWith_23_h5 ga_fuel a 0 0 s
theorem fx_X7_lessonsWith_23 : ∃ f, f = fb_X7_lessonsWith_23 := ⟨_, rfl⟩
def f_X7_lessonsWith_23 : Int32 → ga_M → Option (Int32) := Classical.choose fx_X7_lessonsWith_23
theorem fe_X7_lessonsWith_23 : f_X7_lessonsWith_23 = fb_X7_lessonsWith_23 := Classical.choose_spec fx_X7_lessonsWith_23

def fb_X3_openLessons (s : ga_M) : Option (Int32) :=
  (f_X7_lessonsWith_23 (-1) s).bind fun x1 =>
  some x1
theorem fx_X3_openLessons : ∃ f, f = fb_X3_openLessons := ⟨_, rfl⟩
def f_X3_openLessons : ga_M → Option (Int32) := Classical.choose fx_X3_openLessons
theorem fe_X3_openLessons : f_X3_openLessons = fb_X3_openLessons := Classical.choose_spec fx_X3_openLessons

def fb_X11_count (a : Int32) (s : ga_M) : Option (Int32 ⊕ Nat) :=
  if a = 0 then
    some (.inl (s 1 0))
  else
  if a = 1 then
    some (.inl (s 1 1))
  else
  if a = 2 then
    some (.inl (s 1 2))
  else
  if a = 3 then
    some (.inl (s 1 3))
  else
  if a = 4 then
    some (.inl (s 1 4))
  else
  if a = 5 then
    some (.inl (s 1 5))
  else
  if a = 6 then
    some (.inl (s 1 6))
  else
  if a = 7 then
    (f_X3_openLessons s).bind fun x3 =>
    some (.inl x3)
  else
  if a = 8 then
    (f_X3_supervisedLessons s).bind fun x2 =>
    some (.inl x2)
  else
  if a = 9 then
    (f_X3_differingLessons s).bind fun x1 =>
    some (.inl x1)
  else
    some (.inr 2)
theorem fx_X11_count : ∃ f, f = fb_X11_count := ⟨_, rfl⟩
def f_X11_count : Int32 → ga_M → Option (Int32 ⊕ Nat) := Classical.choose fx_X11_count
theorem fe_X11_count : f_X11_count = fb_X11_count := Classical.choose_spec fx_X11_count

def fb_X11_lesson (a : Int32) (b : Int32) (s : ga_M) : Option (Int32 ⊕ Nat) :=
  Option.elim (v_X11_requireLesson a s) (
    if b = 0 then
      some (.inl (ga_at 22 40 a s))
    else
    if b = 1 then
      some (.inl (ga_at 11 40 a s))
    else
    if b = 2 then
      some (.inl (ga_at 13 40 a s))
    else
    if b = 3 then
      some (.inl (ga_at 24 40 a s))
    else
    if b = 4 then
      some (.inl (ga_at 26 40 a s))
    else
    if b = 5 then
      if (v_X3_isSupervised a s) = 0 then
        some (.inl 0)
      else
        some (.inl 1)
    else
    if b = 6 then
      some (.inl (ga_at 15 40 a s))
    else
    if b = 7 then
      some (.inl (ga_at 17 40 a s))
    else
    if b = 8 then
      some (.inl (ga_at 19 40 a s))
    else
    if b = 9 then
      if (v_X3_differs a s) = 0 then
        some (.inl 0)
      else
        some (.inl 1)
    else
      some (.inr 2)
  ) fun e1 =>
    some (.inr e1)
theorem fx_X11_lesson : ∃ f, f = fb_X11_lesson := ⟨_, rfl⟩
def f_X11_lesson : Int32 → Int32 → ga_M → Option (Int32 ⊕ Nat) := Classical.choose fx_X11_lesson
theorem fe_X11_lesson : f_X11_lesson = fb_X11_lesson := Classical.choose_spec fx_X11_lesson

def f_X7_lessonsWith_16_h5 : Nat → Int32 → Int32 → Int32 → ga_M → Option (Int32)
  | 0, _, _, _, _ => none
  | n + 1, l2, l3, l4, s =>
    if (s 1 6) ≤ l4 then
      some l3
    else
    if (ga_at 17 40 l4 s) = l2 then
      let v102 : Int32 := l3 + 1
      let v103 : Int32 := l4 + 1
      f_X7_lessonsWith_16_h5 n l2 v102 v103 s
    else
      let v101 : Int32 := l4 + 1
      f_X7_lessonsWith_16_h5 n l2 l3 v101 s
def fb_X7_lessonsWith_16 (a : Int32) (s : ga_M) : Option (Int32) :=
  f_X7_lessonsWith_16_h5 ga_fuel a 0 0 s
theorem fx_X7_lessonsWith_16 : ∃ f, f = fb_X7_lessonsWith_16 := ⟨_, rfl⟩
def f_X7_lessonsWith_16 : Int32 → ga_M → Option (Int32) := Classical.choose fx_X7_lessonsWith_16
theorem fe_X7_lessonsWith_16 : f_X7_lessonsWith_16 = fb_X7_lessonsWith_16 := Classical.choose_spec fx_X7_lessonsWith_16

def f_X3_taughtBy_h4 : Nat → Int32 → Int32 → Int32 → ga_M → Option (Int32)
  | 0, _, _, _, _ => none
  | n + 1, l1, l2, l3, s =>
    if (s 1 6) ≤ l3 then
      some l2
    else
    if (ga_at 24 40 l3 s) = l1 then
      if (ga_at 28 40 l3 s) = 0 then
        let v103 : Int32 := l2 + 1
        let v104 : Int32 := l3 + 1
        f_X3_taughtBy_h4 n l1 v103 v104 s
      else
        let v102 : Int32 := l3 + 1
        f_X3_taughtBy_h4 n l1 l2 v102 s
    else
      let v101 : Int32 := l3 + 1
      f_X3_taughtBy_h4 n l1 l2 v101 s
def fb_X3_taughtBy (a : Int32) (s : ga_M) : Option (Int32) :=
  f_X3_taughtBy_h4 ga_fuel a 0 0 s
theorem fx_X3_taughtBy : ∃ f, f = fb_X3_taughtBy := ⟨_, rfl⟩
def f_X3_taughtBy : Int32 → ga_M → Option (Int32) := Classical.choose fx_X3_taughtBy
theorem fe_X3_taughtBy : f_X3_taughtBy = fb_X3_taughtBy := Classical.choose_spec fx_X3_taughtBy

def fb_X11_teacher (a : Int32) (b : Int32) (s : ga_M) : Option (Int32 ⊕ Nat) :=
  Option.elim (v_X11_requireTeacher a s) (
    if b = 0 then
      some (.inl (ga_at 5 8 a s))
    else
    if b = 1 then
      some (.inl (ga_at 7 8 a s))
    else
    if b = 2 then
      some (.inl (ga_at 30 8 a s))
    else
    if b = 3 then
      (f_X3_taughtBy a s).bind fun x5 =>
      some (.inl x5)
    else
    if b = 4 then
      (f_X3_loadOf a s).bind fun x4 =>
      some (.inl x4)
    else
    if b = 5 then
      (f_X3_dutiesOf a s).bind fun x3 =>
      some (.inl x3)
    else
    if b = 6 then
      (f_X7_lessonsWith_16 a s).bind fun x2 =>
      some (.inl x2)
    else
      some (.inr 2)
  ) fun e1 =>
    some (.inr e1)
theorem fx_X11_teacher : ∃ f, f = fb_X11_teacher := ⟨_, rfl⟩
def f_X11_teacher : Int32 → Int32 → ga_M → Option (Int32 ⊕ Nat) := Classical.choose fx_X11_teacher
theorem fe_X11_teacher : f_X11_teacher = fb_X11_teacher := Classical.choose_spec fx_X11_teacher

def f_X7_lessonsWith_25_h5 : Nat → Int32 → Int32 → Int32 → ga_M → Option (Int32)
  | 0, _, _, _, _ => none
  | n + 1, l2, l3, l4, s =>
    if (s 1 6) ≤ l4 then
      some l3
    else
    if (ga_at 26 40 l4 s) = l2 then
      let v102 : Int32 := l3 + 1
      let v103 : Int32 := l4 + 1
      f_X7_lessonsWith_25_h5 n l2 v102 v103 s
    else
      let v101 : Int32 := l4 + 1
      f_X7_lessonsWith_25_h5 n l2 l3 v101 s
def fb_X7_lessonsWith_25 (a : Int32) (s : ga_M) : Option (Int32) :=
  f_X7_lessonsWith_25_h5 ga_fuel a 0 0 s
theorem fx_X7_lessonsWith_25 : ∃ f, f = fb_X7_lessonsWith_25 := ⟨_, rfl⟩
def f_X7_lessonsWith_25 : Int32 → ga_M → Option (Int32) := Classical.choose fx_X7_lessonsWith_25
theorem fe_X7_lessonsWith_25 : f_X7_lessonsWith_25 = fb_X7_lessonsWith_25 := Classical.choose_spec fx_X7_lessonsWith_25

def fb_X11_room (a : Int32) (b : Int32) (s : ga_M) : Option (Int32 ⊕ Nat) :=
  Option.elim (v_X11_requireRoom a s) (
    if b = 0 then
      some (.inl (ga_at 9 6 a s))
    else
    if b = 1 then
      (f_X7_lessonsWith_25 a s).bind fun x2 =>
      some (.inl x2)
    else
      some (.inr 2)
  ) fun e1 =>
    some (.inr e1)
theorem fx_X11_room : ∃ f, f = fb_X11_room := ⟨_, rfl⟩
def f_X11_room : Int32 → Int32 → ga_M → Option (Int32 ⊕ Nat) := Classical.choose fx_X11_room
theorem fe_X11_room : f_X11_room = fb_X11_room := Classical.choose_spec fx_X11_room

def f_X7_lessonsWith_12_h5 : Nat → Int32 → Int32 → Int32 → ga_M → Option (Int32)
  | 0, _, _, _, _ => none
  | n + 1, l2, l3, l4, s =>
    if (s 1 6) ≤ l4 then
      some l3
    else
    if (ga_at 13 40 l4 s) = l2 then
      let v102 : Int32 := l3 + 1
      let v103 : Int32 := l4 + 1
      f_X7_lessonsWith_12_h5 n l2 v102 v103 s
    else
      let v101 : Int32 := l4 + 1
      f_X7_lessonsWith_12_h5 n l2 l3 v101 s
def fb_X7_lessonsWith_12 (a : Int32) (s : ga_M) : Option (Int32) :=
  f_X7_lessonsWith_12_h5 ga_fuel a 0 0 s
theorem fx_X7_lessonsWith_12 : ∃ f, f = fb_X7_lessonsWith_12 := ⟨_, rfl⟩
def f_X7_lessonsWith_12 : Int32 → ga_M → Option (Int32) := Classical.choose fx_X7_lessonsWith_12
theorem fe_X7_lessonsWith_12 : f_X7_lessonsWith_12 = fb_X7_lessonsWith_12 := Classical.choose_spec fx_X7_lessonsWith_12

def fb_X11_subject (a : Int32) (b : Int32) (s : ga_M) : Option (Int32 ⊕ Nat) :=
  if a < 0 then
    some (.inr 3)
  else
  if a < (s 1 2) then
    if b = 0 then
      some (.inl (ga_at 3 6 a s))
    else
    if b = 1 then
      (f_X7_qualifiedFor a s).bind fun x2 =>
      some (.inl x2)
    else
    if b = 2 then
      (f_X7_lessonsWith_12 a s).bind fun x1 =>
      some (.inl x1)
    else
      some (.inr 2)
  else
    some (.inr 3)
theorem fx_X11_subject : ∃ f, f = fb_X11_subject := ⟨_, rfl⟩
def f_X11_subject : Int32 → Int32 → ga_M → Option (Int32 ⊕ Nat) := Classical.choose fx_X11_subject
theorem fe_X11_subject : f_X11_subject = fb_X11_subject := Classical.choose_spec fx_X11_subject

def fb_X11_requireClass (a : Int32) (s : ga_M) : Option (Option Nat) :=
  if a < 0 then
    some (some 3)
  else
  if a < (s 1 5) then
    some none
  else
    some (some 3)
theorem fx_X11_requireClass : ∃ f, f = fb_X11_requireClass := ⟨_, rfl⟩
def f_X11_requireClass : Int32 → ga_M → Option (Option Nat) := Classical.choose fx_X11_requireClass
theorem fe_X11_requireClass : f_X11_requireClass = fb_X11_requireClass := Classical.choose_spec fx_X11_requireClass
def vb_X11_requireClass (a : Int32) (s : ga_M) : Option Nat :=
  if a < 0 then
    some 3
  else
  if a < (s 1 5) then
    none
  else
    some 3
theorem vx_X11_requireClass : ∃ f, f = vb_X11_requireClass := ⟨_, rfl⟩
def v_X11_requireClass : Int32 → ga_M → Option Nat := Classical.choose vx_X11_requireClass
theorem ve_X11_requireClass : v_X11_requireClass = vb_X11_requireClass := Classical.choose_spec vx_X11_requireClass
theorem e_X11_requireClass (a : Int32) (s : ga_M) : f_X11_requireClass a s = some (v_X11_requireClass a s) := by
  rw [fe_X11_requireClass, ve_X11_requireClass]
  unfold fb_X11_requireClass vb_X11_requireClass
  (try dsimp only)
  repeat' (first | rfl | split)

def fb_X11_lessonOfClass (a : Int32) (b : Int32) (s : ga_M) : Option (Int32 ⊕ Nat) :=
  Option.elim (v_X11_requireSlot a s) (
    Option.elim (v_X11_requireClass b s) (
      (f_X3_lessonAt_10 a b s).bind fun x3 =>
      some (.inl x3)
    ) fun e2 =>
      some (.inr e2)
  ) fun e1 =>
    some (.inr e1)
theorem fx_X11_lessonOfClass : ∃ f, f = fb_X11_lessonOfClass := ⟨_, rfl⟩
def f_X11_lessonOfClass : Int32 → Int32 → ga_M → Option (Int32 ⊕ Nat) := Classical.choose fx_X11_lessonOfClass
theorem fe_X11_lessonOfClass : f_X11_lessonOfClass = fb_X11_lessonOfClass := Classical.choose_spec fx_X11_lessonOfClass

def fb_X11_lessonOfTeacher (a : Int32) (b : Int32) (s : ga_M) : Option (Int32 ⊕ Nat) :=
  Option.elim (v_X11_requireSlot a s) (
    Option.elim (v_X11_requireTeacher b s) (
      (f_X3_lessonAt_23 a b s).bind fun x3 =>
      some (.inl x3)
    ) fun e2 =>
      some (.inr e2)
  ) fun e1 =>
    some (.inr e1)
theorem fx_X11_lessonOfTeacher : ∃ f, f = fb_X11_lessonOfTeacher := ⟨_, rfl⟩
def f_X11_lessonOfTeacher : Int32 → Int32 → ga_M → Option (Int32 ⊕ Nat) := Classical.choose fx_X11_lessonOfTeacher
theorem fe_X11_lessonOfTeacher : f_X11_lessonOfTeacher = fb_X11_lessonOfTeacher := Classical.choose_spec fx_X11_lessonOfTeacher

def fb_X11_lessonInRoom (a : Int32) (b : Int32) (s : ga_M) : Option (Int32 ⊕ Nat) :=
  Option.elim (v_X11_requireSlot a s) (
    Option.elim (v_X11_requireRoom b s) (
      (f_X3_lessonAt_25 a b s).bind fun x3 =>
      some (.inl x3)
    ) fun e2 =>
      some (.inr e2)
  ) fun e1 =>
    some (.inr e1)
theorem fx_X11_lessonInRoom : ∃ f, f = fb_X11_lessonInRoom := ⟨_, rfl⟩
def f_X11_lessonInRoom : Int32 → Int32 → ga_M → Option (Int32 ⊕ Nat) := Classical.choose fx_X11_lessonInRoom
theorem fe_X11_lessonInRoom : f_X11_lessonInRoom = fb_X11_lessonInRoom := Classical.choose_spec fx_X11_lessonInRoom

def f_X11_freeTeachers_h9 : Nat → Int32 → Int32 → Int32 → ga_M → Option (Int32 ⊕ Nat)
  | 0, _, _, _, _ => none
  | n + 1, l1, l2, l3, s =>
    if (s 1 3) ≤ l3 then
      some (.inl l2)
    else
      (f_X3_isAwayAt l3 l1 s).bind fun x101 =>
      if x101 = 0 then
        (f_X3_lessonAt_23 l1 l3 s).bind fun x103 =>
        if x103 = (-1) then
          let v105 : Int32 := (l2 ||| (1 <<< (l3 &&& 31)))
          let v106 : Int32 := l3 + 1
          f_X11_freeTeachers_h9 n l1 v105 v106 s
        else
          let v104 : Int32 := l3 + 1
          f_X11_freeTeachers_h9 n l1 l2 v104 s
      else
        let v102 : Int32 := l3 + 1
        f_X11_freeTeachers_h9 n l1 l2 v102 s
def fb_X11_freeTeachers (a : Int32) (s : ga_M) : Option (Int32 ⊕ Nat) :=
  Option.elim (v_X11_requireSlot a s) (
    f_X11_freeTeachers_h9 ga_fuel a 0 0 s
  ) fun e1 =>
    some (.inr e1)
theorem fx_X11_freeTeachers : ∃ f, f = fb_X11_freeTeachers := ⟨_, rfl⟩
def f_X11_freeTeachers : Int32 → ga_M → Option (Int32 ⊕ Nat) := Classical.choose fx_X11_freeTeachers
theorem fe_X11_freeTeachers : f_X11_freeTeachers = fb_X11_freeTeachers := Classical.choose_spec fx_X11_freeTeachers

def f_X11_freeRooms_h30 : Nat → Int32 → Int32 → Int32 → Int32 → ga_M → Option (Int32 ⊕ Nat)
  | 0, _, _, _, _, _ => none
  | n + 1, l1, l2, l3, l4, s =>
    if (s 1 4) ≤ l4 then
      some (.inl l3)
    else
    if (ga_at 9 6 l4 s) = l2 then
      (f_X3_lessonAt_25 l1 l4 s).bind fun x102 =>
      if x102 = (-1) then
        let v104 : Int32 := (l3 ||| (1 <<< (l4 &&& 31)))
        let v105 : Int32 := l4 + 1
        f_X11_freeRooms_h30 n l1 l2 v104 v105 s
      else
        let v103 : Int32 := l4 + 1
        f_X11_freeRooms_h30 n l1 l2 l3 v103 s
    else
      let v101 : Int32 := l4 + 1
      f_X11_freeRooms_h30 n l1 l2 l3 v101 s
def fb_X11_freeRooms (a : Int32) (b : Int32) (s : ga_M) : Option (Int32 ⊕ Nat) :=
  Option.elim (v_X11_requireSlot a s) (
    if b < 0 then
      some (.inr 2)
    else
    if b ≤ 3 then
      f_X11_freeRooms_h30 ga_fuel a b 0 0 s
    else
      some (.inr 2)
  ) fun e1 =>
    some (.inr e1)
theorem fx_X11_freeRooms : ∃ f, f = fb_X11_freeRooms := ⟨_, rfl⟩
def f_X11_freeRooms : Int32 → Int32 → ga_M → Option (Int32 ⊕ Nat) := Classical.choose fx_X11_freeRooms
theorem fe_X11_freeRooms : f_X11_freeRooms = fb_X11_freeRooms := Classical.choose_spec fx_X11_freeRooms

def f_X3_windowsOf_23_h12 : Nat → Int32 → Int32 → Int32 → Int32 → Int32 → Int32 → ga_M → Option (Int32)
  | 0, _, _, _, _, _, _, _ => none
  | n + 1, l2, l3, l4, l5, l6, l7, s =>
    if (s 1 1) ≤ l7 then
      if l6 = 0 then
        some 0
      else
        some ((((l5 - l4) + 1) - l6))
    else
      (f_X3_lessonAt_23 ((l3 * (s 1 1)) + l7) l2 s).bind fun x101 =>
      if x101 = (-1) then
        let v102 : Int32 := l7 + 1
        f_X3_windowsOf_23_h12 n l2 l3 l4 l5 l6 v102 s
      else
      if l4 = (-1) then
        let v105 : Int32 := l6 + 1
        let v106 : Int32 := l7 + 1
        f_X3_windowsOf_23_h12 n l2 l3 l7 l7 v105 v106 s
      else
        let v103 : Int32 := l6 + 1
        let v104 : Int32 := l7 + 1
        f_X3_windowsOf_23_h12 n l2 l3 l4 l7 v103 v104 s
def fb_X3_windowsOf_23 (a : Int32) (b : Int32) (s : ga_M) : Option (Int32) :=
  f_X3_windowsOf_23_h12 ga_fuel a b (-1) (-1) 0 0 s
theorem fx_X3_windowsOf_23 : ∃ f, f = fb_X3_windowsOf_23 := ⟨_, rfl⟩
def f_X3_windowsOf_23 : Int32 → Int32 → ga_M → Option (Int32) := Classical.choose fx_X3_windowsOf_23
theorem fe_X3_windowsOf_23 : f_X3_windowsOf_23 = fb_X3_windowsOf_23 := Classical.choose_spec fx_X3_windowsOf_23

def fb_X11_windows (a : Int32) (b : Int32) (s : ga_M) : Option (Int32 ⊕ Nat) :=
  Option.elim (v_X11_requireTeacher a s) (
    Option.elim (v_X11_requireDay b s) (
      (f_X3_windowsOf_23 a b s).bind fun x3 =>
      some (.inl x3)
    ) fun e2 =>
      some (.inr e2)
  ) fun e1 =>
    some (.inr e1)
theorem fx_X11_windows : ∃ f, f = fb_X11_windows := ⟨_, rfl⟩
def f_X11_windows : Int32 → Int32 → ga_M → Option (Int32 ⊕ Nat) := Classical.choose fx_X11_windows
theorem fe_X11_windows : f_X11_windows = fb_X11_windows := Classical.choose_spec fx_X11_windows

def fb_J9_max_7cf53 (a : Int32) (b : Int32) (s : ga_M) : Option (Int32) :=
  if a < b then
    some b
  else
    some a
theorem fx_J9_max_7cf53 : ∃ f, f = fb_J9_max_7cf53 := ⟨_, rfl⟩
def f_J9_max_7cf53 : Int32 → Int32 → ga_M → Option (Int32) := Classical.choose fx_J9_max_7cf53
theorem fe_J9_max_7cf53 : f_J9_max_7cf53 = fb_J9_max_7cf53 := Classical.choose_spec fx_J9_max_7cf53
def vb_J9_max_7cf53 (a : Int32) (b : Int32) (s : ga_M) : Int32 :=
  if a < b then
    b
  else
    a
theorem vx_J9_max_7cf53 : ∃ f, f = vb_J9_max_7cf53 := ⟨_, rfl⟩
def v_J9_max_7cf53 : Int32 → Int32 → ga_M → Int32 := Classical.choose vx_J9_max_7cf53
theorem ve_J9_max_7cf53 : v_J9_max_7cf53 = vb_J9_max_7cf53 := Classical.choose_spec vx_J9_max_7cf53
theorem e_J9_max_7cf53 (a : Int32) (b : Int32) (s : ga_M) : f_J9_max_7cf53 a b s = some (v_J9_max_7cf53 a b s) := by
  rw [fe_J9_max_7cf53, ve_J9_max_7cf53]
  unfold fb_J9_max_7cf53 vb_J9_max_7cf53
  (try dsimp only)
  repeat' (first | rfl | split)

def f_X11_spread_h9 : Nat → Int32 → Int32 → Int32 → Int32 → ga_M → Option (Int32)
  | 0, _, _, _, _, _ => none
  | n + 1, l1, l2, l3, l4, s =>
    if (s 1 3) ≤ l4 then
      some ((l3 - l2))
    else
    if (ga_at 30 8 l4 s) = 0 then
      (f_X3_loadOf l4 s).bind fun x102 =>
      if l1 = 0 then
        if l1 = 0 then
          let v103 : Int32 := l4 + 1
          f_X11_spread_h9 n 1 x102 x102 v103 s
        else
          let v104 : Int32 := (v_J9_max_7cf53 l3 x102 s)
          let v105 : Int32 := l4 + 1
          f_X11_spread_h9 n 1 x102 v104 v105 s
      else
        let v106 : Int32 := (v_J9_min_7cf53 l2 x102 s)
        if l1 = 0 then
          let v107 : Int32 := l4 + 1
          f_X11_spread_h9 n 1 v106 x102 v107 s
        else
          let v108 : Int32 := (v_J9_max_7cf53 l3 x102 s)
          let v109 : Int32 := l4 + 1
          f_X11_spread_h9 n 1 v106 v108 v109 s
    else
      let v101 : Int32 := l4 + 1
      f_X11_spread_h9 n l1 l2 l3 v101 s
def fb_X11_spread (s : ga_M) : Option (Int32) :=
  f_X11_spread_h9 ga_fuel 0 0 0 0 s
theorem fx_X11_spread : ∃ f, f = fb_X11_spread := ⟨_, rfl⟩
def f_X11_spread : ga_M → Option (Int32) := Classical.choose fx_X11_spread
theorem fe_X11_spread : f_X11_spread = fb_X11_spread := Classical.choose_spec fx_X11_spread

def fb_X3_taughtLessons (s : ga_M) : Option (Int32) :=
  (f_X3_openLessons s).bind fun x1 =>
  (f_X3_supervisedLessons s).bind fun x2 =>
  some ((((s 1 6) - x1) - x2))
theorem fx_X3_taughtLessons : ∃ f, f = fb_X3_taughtLessons := ⟨_, rfl⟩
def f_X3_taughtLessons : ga_M → Option (Int32) := Classical.choose fx_X3_taughtLessons
theorem fe_X3_taughtLessons : f_X3_taughtLessons = fb_X3_taughtLessons := Classical.choose_spec fx_X3_taughtLessons

def fb_X11_taughtShare (s : ga_M) : Option (UInt64) :=
  if 0 < (s 1 6) then
    (f_X3_taughtLessons s).bind fun x1 =>
    if FP.ddiv (FP.i2d x1) (FP.i2d (s 1 6)) &&& 0x7fffffffffffffff ≤ 0x7ff0000000000000 then
      some ((FP.ddiv (FP.i2d x1) (FP.i2d (s 1 6))))
    else
      none
  else
    some (FP.dconst1)
theorem fx_X11_taughtShare : ∃ f, f = fb_X11_taughtShare := ⟨_, rfl⟩
def f_X11_taughtShare : ga_M → Option (UInt64) := Classical.choose fx_X11_taughtShare
theorem fe_X11_taughtShare : f_X11_taughtShare = fb_X11_taughtShare := Classical.choose_spec fx_X11_taughtShare

def fb_X5_append (a : Int32) (s : ga_M) : Option (ga_M) :=
  let s1 : ga_M := ga_pt 71 150 (s 69 3) a s
  let s2 : ga_M := ga_up s1 69 3 ((s1 69 3) + 1)
  some s2
theorem fx_X5_append : ∃ f, f = fb_X5_append := ⟨_, rfl⟩
def f_X5_append : Int32 → ga_M → Option (ga_M) := Classical.choose fx_X5_append
theorem fe_X5_append : f_X5_append = fb_X5_append := Classical.choose_spec fx_X5_append
def vb_X5_append (a : Int32) (s : ga_M) : ga_M :=
  let s1 : ga_M := ga_pt 71 150 (s 69 3) a s
  let s2 : ga_M := ga_up s1 69 3 ((s1 69 3) + 1)
  s2
theorem vx_X5_append : ∃ f, f = vb_X5_append := ⟨_, rfl⟩
def v_X5_append : Int32 → ga_M → ga_M := Classical.choose vx_X5_append
theorem ve_X5_append : v_X5_append = vb_X5_append := Classical.choose_spec vx_X5_append
theorem e_X5_append (a : Int32) (s : ga_M) : f_X5_append a s = some (v_X5_append a s) := by
  rw [fe_X5_append, ve_X5_append]
  unfold fb_X5_append vb_X5_append
  rfl

def fb_X5_writeLesson (a : Int32) (s : ga_M) : Option (ga_M) :=
  if a = (-1) then
    let s7 : ga_M := v_X5_append 45 s
    some s7
  else
    let s1 : ga_M := v_X5_append (48 + (ga_at 13 40 a s)) s
    let s2 : ga_M := v_X5_append 46 s1
    if (v_X3_isOpen a s2) = 0 then
      let s3 : ga_M := v_X5_append (48 + (ga_at 24 40 a s2)) s2
      if (v_X3_isSupervised a s3) = 0 then
        some s3
      else
        let s4 : ga_M := v_X5_append 33 s3
        some s4
    else
      let s5 : ga_M := v_X5_append 63 s2
      if (v_X3_isSupervised a s5) = 0 then
        some s5
      else
        let s6 : ga_M := v_X5_append 33 s5
        some s6
theorem fx_X5_writeLesson : ∃ f, f = fb_X5_writeLesson := ⟨_, rfl⟩
def f_X5_writeLesson : Int32 → ga_M → Option (ga_M) := Classical.choose fx_X5_writeLesson
theorem fe_X5_writeLesson : f_X5_writeLesson = fb_X5_writeLesson := Classical.choose_spec fx_X5_writeLesson
def vb_X5_writeLesson (a : Int32) (s : ga_M) : ga_M :=
  if a = (-1) then
    let s7 : ga_M := v_X5_append 45 s
    s7
  else
    let s1 : ga_M := v_X5_append (48 + (ga_at 13 40 a s)) s
    let s2 : ga_M := v_X5_append 46 s1
    if (v_X3_isOpen a s2) = 0 then
      let s3 : ga_M := v_X5_append (48 + (ga_at 24 40 a s2)) s2
      if (v_X3_isSupervised a s3) = 0 then
        s3
      else
        let s4 : ga_M := v_X5_append 33 s3
        s4
    else
      let s5 : ga_M := v_X5_append 63 s2
      if (v_X3_isSupervised a s5) = 0 then
        s5
      else
        let s6 : ga_M := v_X5_append 33 s5
        s6
theorem vx_X5_writeLesson : ∃ f, f = vb_X5_writeLesson := ⟨_, rfl⟩
def v_X5_writeLesson : Int32 → ga_M → ga_M := Classical.choose vx_X5_writeLesson
theorem ve_X5_writeLesson : v_X5_writeLesson = vb_X5_writeLesson := Classical.choose_spec vx_X5_writeLesson
theorem e_X5_writeLesson (a : Int32) (s : ga_M) : f_X5_writeLesson a s = some (v_X5_writeLesson a s) := by
  rw [fe_X5_writeLesson, ve_X5_writeLesson]
  unfold fb_X5_writeLesson vb_X5_writeLesson
  (try dsimp only)
  repeat' (first | rfl | split)

def f_X5_write_h20 (go7 : Int32 → Int32 → ga_M → Option (ga_M)) : Nat → Int32 → Int32 → Int32 → ga_M → Option (ga_M)
  | 0, _, _, _, _ => none
  | n + 1, l1, l2, l3, s =>
    if (s 1 1) ≤ l3 then
      let s201 : ga_M := v_X5_append 10 s
      let v202 : Int32 := l2 + 1
      go7 l1 v202 s201
    else
    if l3 ≤ 0 then
      (f_X3_lessonAt_10 ((l2 * (s 1 1)) + l3) l1 s).bind fun x203 =>
      let s204 : ga_M := v_X5_writeLesson x203 s
      let v205 : Int32 := l3 + 1
      f_X5_write_h20 go7 n l1 l2 v205 s204
    else
      let s206 : ga_M := v_X5_append 32 s
      (f_X3_lessonAt_10 ((l2 * (s206 1 1)) + l3) l1 s206).bind fun x207 =>
      let s208 : ga_M := v_X5_writeLesson x207 s206
      let v209 : Int32 := l3 + 1
      f_X5_write_h20 go7 n l1 l2 v209 s208
def f_X5_write_h7 : Nat → Int32 → Int32 → ga_M → Option (ga_M)
  | 0, _, _, _ => none
  | n + 1, l1, l2, s =>
    if (s 1 0) ≤ l2 then
      some s
    else
      f_X5_write_h20 (f_X5_write_h7 n) ga_fuel l1 l2 0 s
def fb_X5_write (a : Int32) (s : ga_M) : Option (ga_M) :=
  let s1 : ga_M := ga_up s 69 3 0
  f_X5_write_h7 ga_fuel a 0 s1
theorem fx_X5_write : ∃ f, f = fb_X5_write := ⟨_, rfl⟩
def f_X5_write : Int32 → ga_M → Option (ga_M) := Classical.choose fx_X5_write
theorem fe_X5_write : f_X5_write = fb_X5_write := Classical.choose_spec fx_X5_write

def fb_X11_writeReport (a : Int32) (s : ga_M) : Option ((Int32 ⊕ Nat) × ga_M) :=
  Option.elim (v_X11_requireClass a s) (
    (f_X5_write a s).bind fun s2 =>
    some (.inl (s2 69 3), s2)
  ) fun e1 =>
    some (.inr e1, s)
theorem fx_X11_writeReport : ∃ f, f = fb_X11_writeReport := ⟨_, rfl⟩
def f_X11_writeReport : Int32 → ga_M → Option ((Int32 ⊕ Nat) × ga_M) := Classical.choose fx_X11_writeReport
theorem fe_X11_writeReport : f_X11_writeReport = fb_X11_writeReport := Classical.choose_spec fx_X11_writeReport

def f_X1_restoreMarked_h123 : Nat → Int32 → Int32 → ga_M → Option (ga_M)
  | 0, _, _, _ => none
  | n + 1, l1, l2, s =>
    if 8 ≤ l2 then
      some s
    else
      let s201 : ga_M := ga_pt 30 8 l2 (ga_at 44 1848 ((l1 + 160) + l2) s) s
      let v202 : Int32 := l2 + 1
      f_X1_restoreMarked_h123 n l1 v202 s201
def f_X1_restoreMarked_h11 : Nat → Int32 → Int32 → ga_M → Option (ga_M)
  | 0, _, _, _ => none
  | n + 1, l1, l2, s =>
    if 40 ≤ l2 then
      f_X1_restoreMarked_h123 ga_fuel l1 0 s
    else
      let s101 : ga_M := ga_pt 22 40 l2 (ga_at 44 1848 (l1 + (4 * l2)) s) s
      let s102 : ga_M := ga_pt 24 40 l2 (ga_at 44 1848 ((l1 + (4 * l2)) + 1) s101) s101
      let s103 : ga_M := ga_pt 26 40 l2 (ga_at 44 1848 ((l1 + (4 * l2)) + 2) s102) s102
      let s104 : ga_M := ga_pt 28 40 l2 (ga_at 44 1848 ((l1 + (4 * l2)) + 3) s103) s103
      let v105 : Int32 := l2 + 1
      f_X1_restoreMarked_h11 n l1 v105 s104
def fb_X1_restoreMarked (s : ga_M) : Option (ga_M) :=
  (f_X1_baseOf (s 42 3) s).bind fun x1 =>
  f_X1_restoreMarked_h11 ga_fuel x1 0 s
theorem fx_X1_restoreMarked : ∃ f, f = fb_X1_restoreMarked := ⟨_, rfl⟩
def f_X1_restoreMarked : ga_M → Option (ga_M) := Classical.choose fx_X1_restoreMarked
theorem fe_X1_restoreMarked : f_X1_restoreMarked = fb_X1_restoreMarked := Classical.choose_spec fx_X1_restoreMarked

def fb_X1_restoreLatest (s : ga_M) : Option (ga_M) :=
  let s1 : ga_M := ga_up s 42 3 ((s 42 3) - 1)
  (f_X1_restoreMarked s1).bind fun s2 =>
  some s2
theorem fx_X1_restoreLatest : ∃ f, f = fb_X1_restoreLatest := ⟨_, rfl⟩
def f_X1_restoreLatest : ga_M → Option (ga_M) := Classical.choose fx_X1_restoreLatest
theorem fe_X1_restoreLatest : f_X1_restoreLatest = fb_X1_restoreLatest := Classical.choose_spec fx_X1_restoreLatest

def fb_X11_undo (s : ga_M) : Option ((Int32 ⊕ Nat) × ga_M) :=
  if 0 < (s 42 3) then
    (f_X1_restoreLatest s).bind fun s1 =>
    some (.inl (s1 42 3), s1)
  else
    some (.inr 1, s)
theorem fx_X11_undo : ∃ f, f = fb_X11_undo := ⟨_, rfl⟩
def f_X11_undo : ga_M → Option ((Int32 ⊕ Nat) × ga_M) := Classical.choose fx_X11_undo
theorem fe_X11_undo : f_X11_undo = fb_X11_undo := Classical.choose_spec fx_X11_undo

def fb_X11_undoDepth (s : ga_M) : Option (Int32) :=
  some ((s 42 3))
theorem fx_X11_undoDepth : ∃ f, f = fb_X11_undoDepth := ⟨_, rfl⟩
def f_X11_undoDepth : ga_M → Option (Int32) := Classical.choose fx_X11_undoDepth
theorem fe_X11_undoDepth : f_X11_undoDepth = fb_X11_undoDepth := Classical.choose_spec fx_X11_undoDepth
def vb_X11_undoDepth (s : ga_M) : Int32 :=
  (s 42 3)
theorem vx_X11_undoDepth : ∃ f, f = vb_X11_undoDepth := ⟨_, rfl⟩
def v_X11_undoDepth : ga_M → Int32 := Classical.choose vx_X11_undoDepth
theorem ve_X11_undoDepth : v_X11_undoDepth = vb_X11_undoDepth := Classical.choose_spec vx_X11_undoDepth
theorem e_X11_undoDepth (s : ga_M) : f_X11_undoDepth s = some (v_X11_undoDepth s) := by
  rw [fe_X11_undoDepth, ve_X11_undoDepth]
  unfold fb_X11_undoDepth vb_X11_undoDepth
  rfl

def fb_X7_becomeEmpty (s : ga_M) : Option (ga_M) :=
  let s1 : ga_M := ga_up s 1 0 0
  let s2 : ga_M := ga_up s1 1 1 0
  let s3 : ga_M := ga_up s2 1 2 0
  let s4 : ga_M := ga_up s3 1 3 0
  let s5 : ga_M := ga_up s4 1 4 0
  let s6 : ga_M := ga_up s5 1 5 0
  let s7 : ga_M := ga_up s6 1 6 0
  some s7
theorem fx_X7_becomeEmpty : ∃ f, f = fb_X7_becomeEmpty := ⟨_, rfl⟩
def f_X7_becomeEmpty : ga_M → Option (ga_M) := Classical.choose fx_X7_becomeEmpty
theorem fe_X7_becomeEmpty : f_X7_becomeEmpty = fb_X7_becomeEmpty := Classical.choose_spec fx_X7_becomeEmpty
def vb_X7_becomeEmpty (s : ga_M) : ga_M :=
  let s1 : ga_M := ga_up s 1 0 0
  let s2 : ga_M := ga_up s1 1 1 0
  let s3 : ga_M := ga_up s2 1 2 0
  let s4 : ga_M := ga_up s3 1 3 0
  let s5 : ga_M := ga_up s4 1 4 0
  let s6 : ga_M := ga_up s5 1 5 0
  let s7 : ga_M := ga_up s6 1 6 0
  s7
theorem vx_X7_becomeEmpty : ∃ f, f = vb_X7_becomeEmpty := ⟨_, rfl⟩
def v_X7_becomeEmpty : ga_M → ga_M := Classical.choose vx_X7_becomeEmpty
theorem ve_X7_becomeEmpty : v_X7_becomeEmpty = vb_X7_becomeEmpty := Classical.choose_spec vx_X7_becomeEmpty
theorem e_X7_becomeEmpty (s : ga_M) : f_X7_becomeEmpty s = some (v_X7_becomeEmpty s) := by
  rw [fe_X7_becomeEmpty, ve_X7_becomeEmpty]
  unfold fb_X7_becomeEmpty vb_X7_becomeEmpty
  rfl

def fb_X7_addSubject (a : Int32) (s : ga_M) : Option (ga_M) :=
  let s1 : ga_M := ga_pt 3 6 (s 1 2) a s
  let s2 : ga_M := ga_up s1 1 2 ((s1 1 2) + 1)
  some s2
theorem fx_X7_addSubject : ∃ f, f = fb_X7_addSubject := ⟨_, rfl⟩
def f_X7_addSubject : Int32 → ga_M → Option (ga_M) := Classical.choose fx_X7_addSubject
theorem fe_X7_addSubject : f_X7_addSubject = fb_X7_addSubject := Classical.choose_spec fx_X7_addSubject
def vb_X7_addSubject (a : Int32) (s : ga_M) : ga_M :=
  let s1 : ga_M := ga_pt 3 6 (s 1 2) a s
  let s2 : ga_M := ga_up s1 1 2 ((s1 1 2) + 1)
  s2
theorem vx_X7_addSubject : ∃ f, f = vb_X7_addSubject := ⟨_, rfl⟩
def v_X7_addSubject : Int32 → ga_M → ga_M := Classical.choose vx_X7_addSubject
theorem ve_X7_addSubject : v_X7_addSubject = vb_X7_addSubject := Classical.choose_spec vx_X7_addSubject
theorem e_X7_addSubject (a : Int32) (s : ga_M) : f_X7_addSubject a s = some (v_X7_addSubject a s) := by
  rw [fe_X7_addSubject, ve_X7_addSubject]
  unfold fb_X7_addSubject vb_X7_addSubject
  rfl

def fb_X7_addTeacher (a : Int32) (b : Int32) (s : ga_M) : Option (ga_M) :=
  let s1 : ga_M := ga_pt 5 8 (s 1 3) a s
  let s2 : ga_M := ga_pt 7 8 (s1 1 3) b s1
  let s3 : ga_M := ga_up s2 1 3 ((s2 1 3) + 1)
  some s3
theorem fx_X7_addTeacher : ∃ f, f = fb_X7_addTeacher := ⟨_, rfl⟩
def f_X7_addTeacher : Int32 → Int32 → ga_M → Option (ga_M) := Classical.choose fx_X7_addTeacher
theorem fe_X7_addTeacher : f_X7_addTeacher = fb_X7_addTeacher := Classical.choose_spec fx_X7_addTeacher
def vb_X7_addTeacher (a : Int32) (b : Int32) (s : ga_M) : ga_M :=
  let s1 : ga_M := ga_pt 5 8 (s 1 3) a s
  let s2 : ga_M := ga_pt 7 8 (s1 1 3) b s1
  let s3 : ga_M := ga_up s2 1 3 ((s2 1 3) + 1)
  s3
theorem vx_X7_addTeacher : ∃ f, f = vb_X7_addTeacher := ⟨_, rfl⟩
def v_X7_addTeacher : Int32 → Int32 → ga_M → ga_M := Classical.choose vx_X7_addTeacher
theorem ve_X7_addTeacher : v_X7_addTeacher = vb_X7_addTeacher := Classical.choose_spec vx_X7_addTeacher
theorem e_X7_addTeacher (a : Int32) (b : Int32) (s : ga_M) : f_X7_addTeacher a b s = some (v_X7_addTeacher a b s) := by
  rw [fe_X7_addTeacher, ve_X7_addTeacher]
  unfold fb_X7_addTeacher vb_X7_addTeacher
  rfl

def fb_X7_addRoom (a : Int32) (s : ga_M) : Option (ga_M) :=
  let s1 : ga_M := ga_pt 9 6 (s 1 4) a s
  let s2 : ga_M := ga_up s1 1 4 ((s1 1 4) + 1)
  some s2
theorem fx_X7_addRoom : ∃ f, f = fb_X7_addRoom := ⟨_, rfl⟩
def f_X7_addRoom : Int32 → ga_M → Option (ga_M) := Classical.choose fx_X7_addRoom
theorem fe_X7_addRoom : f_X7_addRoom = fb_X7_addRoom := Classical.choose_spec fx_X7_addRoom
def vb_X7_addRoom (a : Int32) (s : ga_M) : ga_M :=
  let s1 : ga_M := ga_pt 9 6 (s 1 4) a s
  let s2 : ga_M := ga_up s1 1 4 ((s1 1 4) + 1)
  s2
theorem vx_X7_addRoom : ∃ f, f = vb_X7_addRoom := ⟨_, rfl⟩
def v_X7_addRoom : Int32 → ga_M → ga_M := Classical.choose vx_X7_addRoom
theorem ve_X7_addRoom : v_X7_addRoom = vb_X7_addRoom := Classical.choose_spec vx_X7_addRoom
theorem e_X7_addRoom (a : Int32) (s : ga_M) : f_X7_addRoom a s = some (v_X7_addRoom a s) := by
  rw [fe_X7_addRoom, ve_X7_addRoom]
  unfold fb_X7_addRoom vb_X7_addRoom
  rfl

def fb_X7_addLesson (a : Int32) (b : Int32) (c : Int32) (d : Int32) (e : Int32) (s : ga_M) : Option (ga_M) :=
  let s1 : ga_M := ga_pt 15 40 (s 1 6) a s
  let s2 : ga_M := ga_pt 11 40 (s1 1 6) b s1
  let s3 : ga_M := ga_pt 13 40 (s2 1 6) c s2
  let s4 : ga_M := ga_pt 17 40 (s3 1 6) d s3
  let s5 : ga_M := ga_pt 19 40 (s4 1 6) e s4
  let s6 : ga_M := ga_up s5 1 6 ((s5 1 6) + 1)
  some s6
theorem fx_X7_addLesson : ∃ f, f = fb_X7_addLesson := ⟨_, rfl⟩
def f_X7_addLesson : Int32 → Int32 → Int32 → Int32 → Int32 → ga_M → Option (ga_M) := Classical.choose fx_X7_addLesson
theorem fe_X7_addLesson : f_X7_addLesson = fb_X7_addLesson := Classical.choose_spec fx_X7_addLesson
def vb_X7_addLesson (a : Int32) (b : Int32) (c : Int32) (d : Int32) (e : Int32) (s : ga_M) : ga_M :=
  let s1 : ga_M := ga_pt 15 40 (s 1 6) a s
  let s2 : ga_M := ga_pt 11 40 (s1 1 6) b s1
  let s3 : ga_M := ga_pt 13 40 (s2 1 6) c s2
  let s4 : ga_M := ga_pt 17 40 (s3 1 6) d s3
  let s5 : ga_M := ga_pt 19 40 (s4 1 6) e s4
  let s6 : ga_M := ga_up s5 1 6 ((s5 1 6) + 1)
  s6
theorem vx_X7_addLesson : ∃ f, f = vb_X7_addLesson := ⟨_, rfl⟩
def v_X7_addLesson : Int32 → Int32 → Int32 → Int32 → Int32 → ga_M → ga_M := Classical.choose vx_X7_addLesson
theorem ve_X7_addLesson : v_X7_addLesson = vb_X7_addLesson := Classical.choose_spec vx_X7_addLesson
theorem e_X7_addLesson (a : Int32) (b : Int32) (c : Int32) (d : Int32) (e : Int32) (s : ga_M) : f_X7_addLesson a b c d e s = some (v_X7_addLesson a b c d e s) := by
  rw [fe_X7_addLesson, ve_X7_addLesson]
  unfold fb_X7_addLesson vb_X7_addLesson
  rfl

def fb_X7_becomeSample (s : ga_M) : Option (ga_M) :=
  let s1 : ga_M := v_X7_becomeEmpty s
  let s2 : ga_M := ga_up s1 1 0 1
  let s3 : ga_M := ga_up s2 1 1 2
  let s4 : ga_M := v_X7_addSubject 0 s3
  let s5 : ga_M := v_X7_addTeacher 2 1 s4
  let s6 : ga_M := v_X7_addTeacher 2 1 s5
  let s7 : ga_M := v_X7_addRoom 0 s6
  let s8 : ga_M := ga_up s7 1 5 1
  let s9 : ga_M := v_X7_addLesson 0 0 0 0 0 s8
  some s9
theorem fx_X7_becomeSample : ∃ f, f = fb_X7_becomeSample := ⟨_, rfl⟩
def f_X7_becomeSample : ga_M → Option (ga_M) := Classical.choose fx_X7_becomeSample
theorem fe_X7_becomeSample : f_X7_becomeSample = fb_X7_becomeSample := Classical.choose_spec fx_X7_becomeSample
def vb_X7_becomeSample (s : ga_M) : ga_M :=
  let s1 : ga_M := v_X7_becomeEmpty s
  let s2 : ga_M := ga_up s1 1 0 1
  let s3 : ga_M := ga_up s2 1 1 2
  let s4 : ga_M := v_X7_addSubject 0 s3
  let s5 : ga_M := v_X7_addTeacher 2 1 s4
  let s6 : ga_M := v_X7_addTeacher 2 1 s5
  let s7 : ga_M := v_X7_addRoom 0 s6
  let s8 : ga_M := ga_up s7 1 5 1
  let s9 : ga_M := v_X7_addLesson 0 0 0 0 0 s8
  s9
theorem vx_X7_becomeSample : ∃ f, f = vb_X7_becomeSample := ⟨_, rfl⟩
def v_X7_becomeSample : ga_M → ga_M := Classical.choose vx_X7_becomeSample
theorem ve_X7_becomeSample : v_X7_becomeSample = vb_X7_becomeSample := Classical.choose_spec vx_X7_becomeSample
theorem e_X7_becomeSample (s : ga_M) : f_X7_becomeSample s = some (v_X7_becomeSample s) := by
  rw [fe_X7_becomeSample, ve_X7_becomeSample]
  unfold fb_X7_becomeSample vb_X7_becomeSample
  rfl

def fb_L_cover_0 (a : Int32) (b : Int32) (s : ga_M) : Option ((Int32 ⊕ Nat) × ga_M) :=
  (f_X11_cover a b s).bind fun q1 =>
  Sum.elim (fun x3 =>
    some (.inl x3, q1.2)
  ) (fun e2 =>
    if e2 = 1 then
      some (.inl (-1000), q1.2)
    else
      some (.inr e2, q1.2)
  ) q1.1
theorem fx_L_cover_0 : ∃ f, f = fb_L_cover_0 := ⟨_, rfl⟩
def f_L_cover_0 : Int32 → Int32 → ga_M → Option ((Int32 ⊕ Nat) × ga_M) := Classical.choose fx_L_cover_0
theorem fe_L_cover_0 : f_L_cover_0 = fb_L_cover_0 := Classical.choose_spec fx_L_cover_0

def fb_L_supervise_0 (a : Int32) (b : Int32) (s : ga_M) : Option ((Int32 ⊕ Nat) × ga_M) :=
  (f_X11_supervise a b s).bind fun q1 =>
  Sum.elim (fun x3 =>
    some (.inl x3, q1.2)
  ) (fun e2 =>
    if e2 = 1 then
      some (.inl (-1000), q1.2)
    else
      some (.inr e2, q1.2)
  ) q1.1
theorem fx_L_supervise_0 : ∃ f, f = fb_L_supervise_0 := ⟨_, rfl⟩
def f_L_supervise_0 : Int32 → Int32 → ga_M → Option ((Int32 ⊕ Nat) × ga_M) := Classical.choose fx_L_supervise_0
theorem fe_L_supervise_0 : f_L_supervise_0 = fb_L_supervise_0 := Classical.choose_spec fx_L_supervise_0

def fb_L_repair_0 (a : Int32) (s : ga_M) : Option ((Int32 ⊕ Nat) × ga_M) :=
  (f_X11_repair a s).bind fun q1 =>
  Sum.elim (fun x3 =>
    some (.inl x3, q1.2)
  ) (fun e2 =>
    if e2 = 1 then
      some (.inl (-1000), q1.2)
    else
      some (.inr e2, q1.2)
  ) q1.1
theorem fx_L_repair_0 : ∃ f, f = fb_L_repair_0 := ⟨_, rfl⟩
def f_L_repair_0 : Int32 → ga_M → Option ((Int32 ⊕ Nat) × ga_M) := Classical.choose fx_L_repair_0
theorem fe_L_repair_0 : f_L_repair_0 = fb_L_repair_0 := Classical.choose_spec fx_L_repair_0

def fb_L_exchange_0 (a : Int32) (b : Int32) (s : ga_M) : Option ((Int32 ⊕ Nat) × ga_M) :=
  (f_X11_exchange a b s).bind fun q1 =>
  Sum.elim (fun x3 =>
    some (.inl x3, q1.2)
  ) (fun e2 =>
    if e2 = 1 then
      some (.inl (-1000), q1.2)
    else
      some (.inr e2, q1.2)
  ) q1.1
theorem fx_L_exchange_0 : ∃ f, f = fb_L_exchange_0 := ⟨_, rfl⟩
def f_L_exchange_0 : Int32 → Int32 → ga_M → Option ((Int32 ⊕ Nat) × ga_M) := Classical.choose fx_L_exchange_0
theorem fe_L_exchange_0 : f_L_exchange_0 = fb_L_exchange_0 := Classical.choose_spec fx_L_exchange_0

def fb_L_move_0 (a : Int32) (b : Int32) (s : ga_M) : Option ((Int32 ⊕ Nat) × ga_M) :=
  (f_X11_move a b s).bind fun q1 =>
  Sum.elim (fun x3 =>
    some (.inl x3, q1.2)
  ) (fun e2 =>
    if e2 = 1 then
      some (.inl (-1000), q1.2)
    else
      some (.inr e2, q1.2)
  ) q1.1
theorem fx_L_move_0 : ∃ f, f = fb_L_move_0 := ⟨_, rfl⟩
def f_L_move_0 : Int32 → Int32 → ga_M → Option ((Int32 ⊕ Nat) × ga_M) := Classical.choose fx_L_move_0
theorem fe_L_move_0 : f_L_move_0 = fb_L_move_0 := Classical.choose_spec fx_L_move_0

def fb_L_setRoom_0 (a : Int32) (b : Int32) (s : ga_M) : Option ((Int32 ⊕ Nat) × ga_M) :=
  (f_X11_setRoom a b s).bind fun q1 =>
  Sum.elim (fun x3 =>
    some (.inl x3, q1.2)
  ) (fun e2 =>
    if e2 = 1 then
      some (.inl (-1000), q1.2)
    else
      some (.inr e2, q1.2)
  ) q1.1
theorem fx_L_setRoom_0 : ∃ f, f = fb_L_setRoom_0 := ⟨_, rfl⟩
def f_L_setRoom_0 : Int32 → Int32 → ga_M → Option ((Int32 ⊕ Nat) × ga_M) := Classical.choose fx_L_setRoom_0
theorem fe_L_setRoom_0 : f_L_setRoom_0 = fb_L_setRoom_0 := Classical.choose_spec fx_L_setRoom_0

def fb_L_reopen_0 (a : Int32) (s : ga_M) : Option ((Int32 ⊕ Nat) × ga_M) :=
  (f_X11_reopen a s).bind fun q1 =>
  Sum.elim (fun x3 =>
    some (.inl x3, q1.2)
  ) (fun e2 =>
    if e2 = 1 then
      some (.inl (-1000), q1.2)
    else
      some (.inr e2, q1.2)
  ) q1.1
theorem fx_L_reopen_0 : ∃ f, f = fb_L_reopen_0 := ⟨_, rfl⟩
def f_L_reopen_0 : Int32 → ga_M → Option ((Int32 ⊕ Nat) × ga_M) := Classical.choose fx_L_reopen_0
theorem fe_L_reopen_0 : f_L_reopen_0 = fb_L_reopen_0 := Classical.choose_spec fx_L_reopen_0

end
