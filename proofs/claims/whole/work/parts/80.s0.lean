/-! ===== the middle machine: what both sides do, in numbers and lists. Records are functions of field numbers, the reference's own ===== -/
/-- a request: 0 session 1 number 2 snapshot; 3 reads 4 writes; values -/
abbrev Rq : Type := (Nat → Nat) × (Nat → Int32) × (Nat → Int32)
/-- what the log up to an index makes: values, numbers, verdicts, what each slot wrote -/
abbrev Sta : Type := (Nat → Int32) × (Nat → Nat) × (Nat → Nat) × (Nat → Int32)
/-- a note: kind, ballot, slot, request, index -/
abbrev Nt : Type := Nat × Nat × Nat × Nat × Nat
/-- a replica: 6 up 7 index 8 horizon 9 base 10 promised 11 12 accepted 13 quiet 19 role 20 ballot 21 answered 22 proposed 23 24 told 25 seen 31 length 32 generation 33 half 34 blocks 35 due 43 44 gathered; queue; notes; disk -/
abbrev Rp : Type := (Nat → Nat) × List Nat × List Nt × (Nat → Nat)
/-- a message: 0 kind 1 from 2 to 3 ballot 4 slot 5 request 6 told 7 spoilt 8 piece -/
abbrev Mg : Type := Nat → Nat
/-- a session: 46 status 47 number 48 home 49 snapshot 52 only reads 53 request; 50 reads 51 writes; values -/
abbrev Se : Type := (Nat → Nat) × (Nat → Int32) × (Nat → Int32)
/-- 1 replicas 2 versions 3 kept 4 next request 11 patience 54 sent 55 lost 56 spoilt 100 length of the log; requests; log; replicas; sessions; flight -/
abbrev Sx : Type := (Nat → Nat) × (Nat → Rq) × (Nat → Nat) × (Nat → Rp) × (Nat → Se) × List Mg
abbrev Sx.N (S : Sx) : Nat := S.1 1
abbrev Sx.V (S : Sx) : Nat := S.1 2
abbrev Sx.L (S : Sx) : Nat := S.1 3
abbrev Sx.T (S : Sx) : Nat := S.1 11
abbrev Sx.ll (S : Sx) : Nat := S.1 100
abbrev Sx.tb (S : Sx) : Nat → Rq := S.2.1
abbrev Sx.lg (S : Sx) : Nat → Nat := S.2.2.1
abbrev Sx.rp (S : Sx) : Nat → Rp := S.2.2.2.1
abbrev Sx.se (S : Sx) : Nat → Se := S.2.2.2.2.1
abbrev Sx.fl (S : Sx) : List Mg := S.2.2.2.2.2
def Rp.u (R : Rp) (f v : Nat) : Rp := (va_up R.1 f v, R.2)
def Rp.q (R : Rp) (l : List Nat) : Rp := (R.1, l, R.2.2)
def Rp.n (R : Rp) (l : List Nt) : Rp := (R.1, R.2.1, l, R.2.2.2)
def Rp.d (R : Rp) (d : Nat → Nat) : Rp := (R.1, R.2.1, R.2.2.1, d)
def Sx.set (S : Sx) (r : Nat) (R : Rp) : Sx := (S.1, S.2.1, S.2.2.1, va_up S.rp r R, S.2.2.2.2)
def Sx.sets (S : Sx) (g : Nat → Se) : Sx := (S.1, S.2.1, S.2.2.1, S.rp, g, S.fl)
def Sx.setf (S : Sx) (l : List Mg) : Sx := (S.1, S.2.1, S.2.2.1, S.rp, S.se, l)
def Sx.u (S : Sx) (f v : Nat) : Sx := (va_up S.1 f v, S.2)
def Sx.log (S : Sx) (n : Nat) (g : Nat → Nat) : Sx := (va_up S.1 100 n, S.2.1, g, S.2.2.2)
def y_msg (kd fr tt bl sl rq td pc : Nat) : Mg := fun f => match f with
  | 0 => kd
  | 1 => fr
  | 2 => tt
  | 3 => bl
  | 4 => sl
  | 5 => rq
  | 6 => td
  | 8 => pc
  | _ => 0
def y_bad (V : Nat) (s : Sta) (i : Nat) (q : Rq) : Bool := decide (q.1 2 + V < i) || (List.range' (q.1 2 + 1) (i - q.1 2)).any (fun j => decide (¬ s.2.2.2 j &&& q.2.1 3 = 0))
def y_ver (V : Nat) (s : Sta) (i : Nat) (q : Rq) : Nat := if s.2.1 (q.1 0) < q.1 1 then (if y_bad V s i q then 2 else 1) else 0
def y_wr (V : Nat) (s : Sta) (i : Nat) (q : Rq) : Int32 := if y_ver V s i q = 1 then q.2.1 4 else 0
def y_app (V : Nat) (s : Sta) (i : Nat) (q : Rq) : Sta :=
  (fun k => if ((y_wr V s i q >>> (nI k &&& 31)) &&& (1 : Int32)) = (1 : Int32) then q.2.2 k else s.1 k,
   if s.2.1 (q.1 0) < q.1 1 then va_up s.2.1 (q.1 0) (q.1 1) else s.2.1,
   if s.2.1 (q.1 0) < q.1 1 then va_up s.2.2.1 (q.1 0) (y_ver V s i q) else s.2.2.1,
   va_up s.2.2.2 (i + 1) (y_wr V s i q))
def stN (V : Nat) (tb : Nat → Rq) (g : Nat → Nat) : Nat → Sta
  | 0 => (fun _ => 0, fun _ => 0, fun _ => 0, fun _ => 0)
  | i + 1 => y_app V (stN V tb g i) i (tb (g (i + 1)))
def Sx.sta (S : Sx) (i : Nat) : Sta := stN S.V S.tb S.lg i
def encQ (q : Rq) : List Nat := encR (nI (q.1 0)) (q.1 1) (q.1 2) (q.2.1 3) (q.2.1 4) q.2.2
def y_wn (s : Sta) (i v : Nat) : Int32 := if i ≤ v then 0 else s.2.2.2 (i - v)
def encSt (V : Nat) (s : Sta) (i : Nat) : List Nat := encS i s.1 s.2.1 (fun k => nI (s.2.2.1 k)) (y_wn s i) V
def Sx.enc (S : Sx) (i : Nat) : List Nat := encSt S.V (S.sta i) i
def encVa (v : Nat → Int32) : List Nat := (List.range' 0 16).flatMap (fun k => be4 (v k))
def y_pay (V : Nat) (tb : Nat → Rq) (st : Nat → Sta) (n : Nt) : List Nat := match n.1 with
  | 1 => 1 :: encU n.2.1
  | 2 => 2 :: (encU n.2.1 ++ (encU n.2.2.1 ++ encQ (tb n.2.2.2.1)))
  | 3 => 3 :: encQ (tb n.2.2.2.1)
  | 4 => 4 :: encSt V (st n.2.2.2.2) n.2.2.2.2
  | _ => 5 :: encVa (st n.2.2.2.2).1
def Sx.rec (S : Sx) (n : Nt) : List Nat := recL (y_pay S.V S.tb S.sta n)
/-! disks -/
abbrev y_no : Nat := 4294967295
def y_plc (d : Nat → Nat) (l : List Nat) (b start : Nat) : Nat → Nat := fun a => if max start (512 * b) ≤ a ∧ a < 512 * (b + 1) then byA l (a - start) else d a
def y_blk (l : List Nat) (start : Nat) : Rp → List Nat → Rp × Bool
  | R, [] => (R, true)
  | R, b :: bs => if R.1 35 = 0 then (R.u 35 y_no, false) else y_blk l start (((R.u 35 (if R.1 35 = y_no then y_no else R.1 35 - 1)).u 34 (R.1 34 + 1)).d (y_plc R.2.2.2 l b start)) bs
def y_hs (h : Nat) : Nat := if h = 0 then 1024 else 16896
def y_asc (start len : Nat) : List Nat := List.range' (start / 512) ((start + len + 1) / 512 + 1 - start / 512)
def y_follow (R : Rp) : Rp := (((((R.u 19 0).u 20 0).u 21 0).u 22 0).u 23 0).u 24 0
def y_goDown (S : Sx) (r : Nat) : Sx := (S.set r ((y_follow ((S.rp r).u 6 0)).q [])).sets (fun s => if (S.se s).1 46 = 1 ∧ (S.se s).1 48 = r then (va_up (S.se s).1 46 4, (S.se s).2) else S.se s)
def y_note (S : Sx) (r : Nat) (n : Nt) : Sx × Bool :=
  let R := S.rp r
  let p := y_blk (S.rec n) (y_hs (R.1 33) + R.1 31) R (y_asc (y_hs (R.1 33) + R.1 31) (S.rec n).length).reverse
  if p.2 then (S.set r ((p.1.u 31 (R.1 31 + (S.rec n).length)).n (R.2.2.1 ++ [n])), true) else (y_goDown (S.set r p.1) r, false)
def y_ckN (R : Rp) : List Nt := (4, 0, 0, 0, R.1 7) :: ((List.range' (R.1 8) (R.1 7 - R.1 8)).reverse.map (fun i => (5, 0, 0, 0, i)) ++ ((if 0 < R.1 12 then [(2, R.1 11, R.1 7 + 1, R.1 12, 0)] else []) ++ [(1, R.1 10, 0, 0, 0)]))
def y_ckp (S : Sx) (r : Nat) : Sx × Bool :=
  let R := S.rp r
  if R.2.2.1.length < 48 then (S, true) else
  let im := (y_ckN R).flatMap S.rec
  let st := y_hs (1 - R.1 33)
  let p := y_blk im st R (y_asc st im.length)
  if p.2 then
    let b := (R.1 32 + 1) % 2
    let p2 := y_blk (headL (nI (R.1 32 + 1)) (nI (1 - R.1 33))) (512 * b) p.1 [b]
    if p2.2 then (S.set r ((((p2.1.u 32 (R.1 32 + 1)).u 33 (1 - R.1 33)).u 31 im.length).n (y_ckN R)), true) else (y_goDown (S.set r p2.1) r, false)
  else (y_goDown (S.set r p.1) r, false)
/-! the store -/
def y_learnt (S : Sx) (r q : Nat) : Sx :=
  let R := S.rp r
  (S.set r (((((R.u 7 (R.1 7 + 1)).u 8 (max (R.1 8) (R.1 7 + 1 - S.V))).u 9 (max (R.1 9) (R.1 7 + 1 - S.L))).u 11 0).u 12 0)).log (max S.ll (R.1 7 + 1)) (if S.ll < R.1 7 + 1 then va_up S.lg (R.1 7 + 1) q else S.lg)
def y_known (S : Sx) (r q : Nat) : Bool := decide ((S.tb q).1 1 ≤ (S.sta ((S.rp r).1 7)).2.1 ((S.tb q).1 0))
/-! frames -/
def y_send (S : Sx) (m : Mg) : Sx := if S.fl.length = 200 then (S.u 54 (S.1 54 + 1)).u 55 (S.1 55 + 1) else (S.u 54 (S.1 54 + 1)).setf (S.fl ++ [m])
def y_sendL (kd r b s q : Nat) : List Nat → Sx → Sx
  | [], S => S
  | t :: ts, S => y_sendL kd r b s q ts (if t = r then S else y_send S (y_msg kd r t b s q 0 0))
def y_sendAll (S : Sx) (kd r b s q : Nat) : Sx := y_sendL kd r b s q (List.range' 0 S.N) S
def y_many (S : Sx) (i : Nat) : Nat := ((S.enc i).length + 63) / 64
def y_sendP (r t i : Nat) : List Nat → Sx → Sx
  | [], S => S
  | k :: ks, S => y_sendP r t i ks (y_send S (y_msg 8 r t 0 i 0 0 k))
def y_help (S : Sx) (r t s : Nat) : Sx :=
  if (S.rp r).1 9 < s ∧ s ≤ (S.rp r).1 7 then y_send S (y_msg 5 r t 0 s (S.lg s) 0 0)
  else y_sendP r t ((S.rp r).1 7) (List.range' 0 (y_many S ((S.rp r).1 7))) S
/-! what replicas do -/
def y_tell (S : Sx) (r : Nat) : Sx :=
  let R := S.rp r
  (S.set r ((if R.1 43 ≤ R.1 7 then (R.u 43 0).u 44 0 else R).q (R.2.1.filter (fun q => !y_known S r q)))).sets
    (fun s => if s < 16 ∧ (S.se s).1 46 = 2 ∧ (S.se s).1 48 = r ∧ (S.sta (R.1 7)).2.1 s = (S.se s).1 47 then (va_up (S.se s).1 46 (2 + (S.sta (R.1 7)).2.2.1 s), (S.se s).2) else S.se s)
def y_next (N r m : Nat) : Nat := if m - m % N + r ≤ m then m - m % N + r + N else m - m % N + r
def y_notePr (S : Sx) (r b : Nat) : Sx × Bool :=
  let p := y_note S r (1, b, 0, 0, 0)
  if p.2 then y_ckp (p.1.set r ((p.1.rp r).u 10 b)) r else (p.1, false)
def y_campaign (S : Sx) (r : Nat) : Sx :=
  let b := y_next S.N r (max ((S.rp r).1 10) ((S.rp r).1 25))
  let p := y_notePr S r b
  if p.2 then
    let R := y_follow (p.1.rp r)
    y_sendAll (p.1.set r ((((((R.u 19 1).u 20 b).u 21 (2 ^ r)).u 23 (R.1 12)).u 24 (R.1 11)).u 13 0)) 1 r b (R.1 7 + 1) 0
  else p.1
def y_accepts (S : Sx) (r b q : Nat) : Sx × Bool :=
  let p := y_note S r (2, b, (S.rp r).1 7 + 1, q, 0)
  if p.2 then y_ckp (p.1.set r ((((p.1.rp r).u 10 b).u 11 b).u 12 q)) r else (p.1, false)
def y_proposeIt (S : Sx) (r q : Nat) : Sx :=
  let p := y_accepts S r ((S.rp r).1 20) q
  if p.2 then
    let R := p.1.rp r
    y_sendAll (p.1.set r (((R.u 22 q).u 21 (2 ^ r)).u 13 0)) 3 r (R.1 20) (R.1 7 + 1) q
  else p.1
def y_propose (S : Sx) (r : Nat) : Sx × Bool :=
  match (S.rp r).2.1.dropWhile (fun q => y_known S r q) with
  | [] => (S, false)
  | q :: qs => (y_proposeIt (S.set r ((S.rp r).q (q :: qs))) r q, true)
def y_learn (S : Sx) (r q : Nat) : Sx × Bool :=
  let p := y_note S r (3, 0, 0, q, 0)
  if p.2 then
    let p2 := y_ckp (y_learnt p.1 r q) r
    if p2.2 then
      let R := (if (p2.1.rp r).1 19 = 1 then y_follow (p2.1.rp r) else p2.1.rp r).u 22 0
      (y_tell (p2.1.set r ((if R.1 19 = 2 then R.u 21 0 else R).u 13 0)) r, true)
    else (p2.1, false)
  else (p.1, false)
def y_count (N a : Nat) : Nat := (List.range' 0 N).countP (fun k => a.testBit k)
def y_prepared (S : Sx) (r t b s : Nat) : Sx :=
  let R := S.rp r
  if s ≤ R.1 7 then y_help S r t s
  else if b < R.1 10 then y_send S (y_msg 7 r t (R.1 10) 0 0 0 0)
  else
    let p := if R.1 10 < b then y_notePr S r b else (S, true)
    if p.2 then
      let R := y_follow (p.1.rp r)
      y_send (p.1.set r R) (if s = R.1 7 + 1 ∧ 0 < R.1 12 then y_msg 2 r t b s (R.1 12) (R.1 11) 0 else y_msg 2 r t b s 0 0 0)
    else p.1
def y_gotPromise (S : Sx) (r t b s q o : Nat) : Sx :=
  let R := S.rp r
  if R.1 19 = 1 ∧ R.1 20 = b ∧ s = R.1 7 + 1 ∧ ¬ (R.1 21).testBit t then
    let R1 := R.u 21 (R.1 21 ||| 2 ^ t)
    let R2 := if 0 < q ∧ R.1 24 < o then (R1.u 23 q).u 24 o else R1
    if S.N < 2 * y_count S.N (R2.1 21) then
      let S1 := S.set r (((R2.u 19 2).u 21 0).u 13 0)
      if 0 < R2.1 23 then y_proposeIt S1 r (R2.1 23) else (y_propose S1 r).1
    else S.set r R2
  else S
def y_gotAccept (S : Sx) (r t b s q : Nat) : Sx :=
  let R := S.rp r
  if s ≤ R.1 7 then y_help S r t s
  else if R.1 7 + 1 < s then y_send S (y_msg 6 r t 0 (R.1 7 + 1) 0 0 0)
  else if b < R.1 10 then y_send S (y_msg 7 r t (R.1 10) 0 0 0 0)
  else
    let p := y_accepts S r b q
    if p.2 then
      let R := p.1.rp r
      y_send (p.1.set r ((if R.1 19 = 1 ∨ (R.1 19 = 2 ∧ ¬ R.1 20 = b) then y_follow R else R).u 13 0)) (y_msg 4 r t b s 0 0 0)
    else p.1
def y_gotAccepted (S : Sx) (r t b s : Nat) : Sx :=
  let R := S.rp r
  if R.1 19 = 2 ∧ R.1 20 = b ∧ ¬ R.1 22 = 0 ∧ s = R.1 7 + 1 ∧ ¬ (R.1 21).testBit t then
    let S1 := S.set r (R.u 21 (R.1 21 ||| 2 ^ t))
    if S.N < 2 * y_count S.N (R.1 21 ||| 2 ^ t) then
      let p := y_learn (y_sendAll S1 5 r 0 s (R.1 22)) r (R.1 22)
      if p.2 then (y_propose p.1 r).1 else p.1
    else S1
  else S
def y_wait (S : Sx) (r q : Nat) : Sx :=
  let R := S.rp r
  if q ∈ R.2.1 ∨ 8 ≤ R.2.1.length then S else S.set r (R.q (R.2.1 ++ [q]))
def y_gotForward (S : Sx) (r q : Nat) : Sx := if y_known S r q then S else y_wait S r q
def y_above (R : Rp) (b : Nat) : Rp := if 0 < R.1 19 ∧ R.1 20 < b then y_follow R else R
def y_gotBeat (S : Sx) (r t b s : Nat) : Sx :=
  let R := S.rp r
  if b < R.1 10 then y_send S (y_msg 7 r t (R.1 10) 0 0 0 0)
  else
    let S1 := S.set r (y_above (R.u 13 0) b)
    if R.1 7 < s then y_send S1 (y_msg 6 r t 0 (R.1 7 + 1) 0 0 0)
    else if s < R.1 7 then y_help S1 r t (s + 1) else S1
def y_gotState (S : Sx) (r s k : Nat) : Sx :=
  let R := S.rp r
  if s ≤ R.1 7 ∨ s < R.1 43 then S
  else
    let g := (if R.1 43 < s then 0 else R.1 44) ||| 2 ^ k
    let S1 := S.set r ((R.u 43 s).u 44 g)
    if g = 2 ^ y_many S s - 1 then
      let p := y_note S1 r (4, 0, 0, 0, s)
      if p.2 then
        let p2 := y_ckp (p.1.set r ((((((p.1.rp r).u 7 s).u 8 s).u 9 s).u 11 0).u 12 0)) r
        if p2.2 then y_tell (p2.1.set r ((y_follow (p2.1.rp r)).u 13 0)) r else p2.1
      else p.1
    else S1
def y_comes (S0 : Sx) (m : Mg) : Sx :=
  let r := m 2
  let S := S0.set r ((S0.rp r).u 25 (max (m 3) ((S0.rp r).1 25)))
  match m 0 with
  | 1 => y_prepared S r (m 1) (m 3) (m 4)
  | 2 => y_gotPromise S r (m 1) (m 3) (m 4) (m 5) (m 6)
  | 3 => y_gotAccept S r (m 1) (m 3) (m 4) (m 5)
  | 4 => y_gotAccepted S r (m 1) (m 3) (m 4)
  | 5 => if m 4 = (S.rp r).1 7 + 1 then (y_learn S r (m 5)).1 else if (S.rp r).1 7 + 1 < m 4 then y_send S (y_msg 6 r (m 1) 0 ((S.rp r).1 7 + 1) 0 0 0) else S
  | 6 => if m 4 ≤ (S.rp r).1 7 then y_help S r (m 1) (m 4) else S
  | 7 => S.set r (y_above (S.rp r) (m 3))
  | 8 => y_gotState S r (m 4) (m 8)
  | 9 => y_gotForward S r (m 5)
  | _ => y_gotBeat S r (m 1) (m 3) (m 4)
def y_rbs (L : Nat) (p : Nat × Nat) (n : Nt) : Nat × Nat := match n.1 with
  | 3 => (p.1 + 1, max p.2 (p.1 + 1 - L))
  | 4 => (n.2.2.2.2, n.2.2.2.2)
  | _ => p
def y_comeUp (S : Sx) (r : Nat) : Sx :=
  let R := S.rp r
  (y_ckp (S.set r (((((((R.u 6 1).u 9 (R.2.2.1.foldl (y_rbs S.L) (0, 0)).2).u 43 0).u 44 0).u 25 (R.1 10)).u 35 y_no).u 13 0)) r).1
def y_tick (S0 : Sx) (r : Nat) : Sx :=
  let R := (S0.rp r).u 13 ((S0.rp r).1 13 + 1)
  let S := S0.set r R
  if R.1 19 = 2 ∧ 0 < R.1 22 then
    if S.T ≤ R.1 13 then y_sendAll (S.set r (R.u 13 0)) 3 r (R.1 20) (R.1 7 + 1) (R.1 22) else S
  else if R.1 19 = 2 then
    let p := y_propose S r
    if p.2 then p.1 else if S.T ≤ R.1 13 then y_sendAll (S.set r (R.u 13 0)) 10 r (R.1 20) (R.1 7) 0 else S
  else if R.1 19 = 1 then
    if S.T ≤ R.1 13 then y_campaign S r else S
  else if 0 < R.2.1.length then
    if S.T + r ≤ R.1 13 then y_campaign S r
    else if 0 < R.1 25 ∧ ¬ R.1 25 % S.N = r then y_send S (y_msg 9 r (R.1 25 % S.N) 0 0 (R.2.1.headD 0) 0 0) else S
  else if S.T ≤ R.1 13 then y_send (S.set r (R.u 13 0)) (y_msg 6 r ((r + 1) % S.N) 0 (R.1 7 + 1) 0 0 0)
  else S
