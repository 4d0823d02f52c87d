abbrev ix (x : Int32) : Nat := x.toNatClampNeg
/-! The state, and what each method of the two programs does to it, written as they compute it.
The shared part: there, pages (6 p + g), marks, where each sheet lies, words (4 s + i), hand, faults, evictions, copied. -/
abbrev Sg : Type := (Nat → Int32) × (Nat → Int32) × (Nat → Int32) × (Nat → Int32) × (Nat → Int32) × Int32 × Int32 × Int32 × Int32
abbrev sg_th (s : Sg) : Nat → Int32 := s.1
abbrev sg_pg (s : Sg) : Nat → Int32 := s.2.1
abbrev sg_mk (s : Sg) : Nat → Int32 := s.2.2.1
abbrev sg_li (s : Sg) : Nat → Int32 := s.2.2.2.1
abbrev sg_wd (s : Sg) : Nat → Int32 := s.2.2.2.2.1
abbrev sg_hd (s : Sg) : Int32 := s.2.2.2.2.2.1
abbrev sg_fl (s : Sg) : Int32 := s.2.2.2.2.2.2.1
abbrev sg_ev (s : Sg) : Int32 := s.2.2.2.2.2.2.2.1
abbrev sg_cp (s : Sg) : Int32 := s.2.2.2.2.2.2.2.2
abbrev su_th (s : Sg) (f : Nat → Int32) : Sg := (f, s.2)
abbrev su_pg (s : Sg) (f : Nat → Int32) : Sg := (s.1, f, s.2.2)
abbrev su_mk (s : Sg) (f : Nat → Int32) : Sg := (s.1, s.2.1, f, s.2.2.2)
abbrev su_li (s : Sg) (f : Nat → Int32) : Sg := (s.1, s.2.1, s.2.2.1, f, s.2.2.2.2)
abbrev su_wd (s : Sg) (f : Nat → Int32) : Sg := (s.1, s.2.1, s.2.2.1, s.2.2.2.1, f, s.2.2.2.2.2)
abbrev su_hd (s : Sg) (x : Int32) : Sg := (s.1, s.2.1, s.2.2.1, s.2.2.2.1, s.2.2.2.2.1, x, s.2.2.2.2.2.2)
abbrev su_fl (s : Sg) (x : Int32) : Sg := (s.1, s.2.1, s.2.2.1, s.2.2.2.1, s.2.2.2.2.1, s.2.2.2.2.2.1, x, s.2.2.2.2.2.2.2)
abbrev su_ev (s : Sg) (x : Int32) : Sg := (s.1, s.2.1, s.2.2.1, s.2.2.2.1, s.2.2.2.2.1, s.2.2.2.2.2.1, s.2.2.2.2.2.2.1, x, s.2.2.2.2.2.2.2.2)
abbrev su_cp (s : Sg) (x : Int32) : Sg := (s.1, s.2.1, s.2.2.1, s.2.2.2.1, s.2.2.2.2.1, s.2.2.2.2.2.1, s.2.2.2.2.2.2.1, s.2.2.2.2.2.2.2.1, x)
-- the reference
def m_at (li : Nat → Int32) (pl : Int32) : Nat → Nat → Int32
  | 0, _ => -1
  | n + 1, i => if li i = pl then nI i else m_at li pl n (i + 1)
abbrev m_sheetAt (li : Nat → Int32) (pl : Int32) : Int32 := m_at li pl 18 0
def m_lowF (li : Nat → Int32) : Nat → Nat → Int32
  | 0, _ => -1
  | n + 1, i => if 0 ≤ m_sheetAt li (nI i) then m_lowF li n (i + 1) else nI i
def m_lowS (li : Nat → Int32) : Nat → Nat → Int32
  | 0, _ => -1
  | n + 1, i => if 0 ≤ m_sheetAt li (100 + nI i) then m_lowS li n (i + 1) else 100 + nI i
def m_own (pg : Nat → Int32) (a : Int32) : Nat → Nat → Int32 → Int32
  | 0, _, x => x
  | n + 1, i, x => m_own pg a n (i + 1) (if pg i = a then x + 1 else x)
abbrev m_owners (pg : Nat → Int32) (a : Int32) : Int32 := m_own pg a 36 0 0
def m_turn (F : Nat) (h : Int32) : Int32 := if h + 1 = nI F then 0 else h + 1
def m_sweep (F : Nat) : Nat → (Nat → Int32) → Int32 → (Nat → Int32) × Int32
  | 0, mq, h => (mq, h)
  | n + 1, mq, h => if mq (ix h) = 0 then (mq, h) else m_sweep F n (upd mq (ix h) 0) (m_turn F h)
/-- behind the sweep: the sheet at the hand goes into the lowest free slot -/
def m_evict (F S : Nat) (s : Sg) : Int32 × Sg :=
  let q := m_sweep F 8 (sg_mk s) (sg_hd s)
  (q.2, su_hd (su_ev (su_li (su_mk s q.1) (upd (sg_li s) (ix (m_sheetAt (sg_li s) q.2)) (m_lowS (sg_li s) S 0))) (sg_ev s + 1)) (m_turn F q.2))
def m_getFrame (F S : Nat) (s : Sg) : Int32 × Sg :=
  if m_lowF (sg_li s) F 0 < 0 then m_evict F S s else (m_lowF (sg_li s) F 0, s)
def m_canMake (F S : Nat) (li : Nat → Int32) : Int32 := if 0 ≤ m_lowF li F 0 then 1 else if m_lowS li S 0 < 0 then 0 else 1
def m_cpw (like a : Int32) : Nat → Nat → (Nat → Int32) → (Nat → Int32)
  | 0, _, w => w
  | n + 1, i, w => m_cpw like a n (i + 1) (upd w (ix (4 * a + nI i)) (if 0 ≤ like then w (ix (4 * like + nI i)) else 0))
def m_make (F S : Nat) (s : Sg) (k like : Int32) : Sg :=
  let a := m_sheetAt (sg_li s) (-1)
  let q := m_getFrame F S s
  su_fl (su_pg (su_wd (su_li q.2 (upd (sg_li q.2) (ix a) q.1)) (m_cpw like a 4 0 (sg_wd q.2))) (upd (sg_pg q.2) (ix k) a)) (sg_fl q.2 + 1)
def m_bringIn (F S : Nat) (s : Sg) (a : Int32) : Sg :=
  if sg_li s (ix a) < 100 then s else
  let q := m_getFrame F S (su_li s (upd (sg_li s) (ix a) (-1)))
  su_fl (su_li q.2 (upd (sg_li q.2) (ix a) q.1)) (sg_fl q.2 + 1)
def m_emp (s : Sg) (k a : Int32) : Sg :=
  su_li (su_mk (su_pg s (upd (sg_pg s) (ix k) (-1))) (if 100 ≤ sg_li s (ix a) then sg_mk s else upd (sg_mk s) (ix (sg_li s (ix a))) 0)) (upd (sg_li s) (ix a) (-1))
def m_empty (s : Sg) (k : Int32) : Int32 × Sg :=
  if sg_pg s (ix k) < 0 then (0, su_pg s (upd (sg_pg s) (ix k) (-1))) else
  if m_owners (upd (sg_pg s) (ix k) (-1)) (sg_pg s (ix k)) ≤ 0 then (1, m_emp s k (sg_pg s (ix k))) else (0, su_pg s (upd (sg_pg s) (ix k) (-1)))
def m_isP (th : Nat → Int32) (p : Int32) : Int32 := if p < 0 then 0 else if 6 ≤ p then 0 else if th (ix p) = 0 then 0 else 1
def m_isA (a : Int32) : Int32 := if a < 0 then 0 else if 24 ≤ a then 0 else 1
def m_lowP (th : Nat → Int32) : Nat → Nat → Int32
  | 0, _ => -1
  | n + 1, i => if th i = 0 then nI i else m_lowP th n (i + 1)
/-- answer, thrown, state -/
def m_spawn (s : Sg) : Int32 × Int32 × Sg := if 0 ≤ m_lowP (sg_th s) 6 0 then (m_lowP (sg_th s) 6 0, 0, su_th s (upd (sg_th s) (ix (m_lowP (sg_th s) 6 0)) 1)) else (0, 1, s)
def m_forkL (p q : Int32) : Nat → Nat → (Nat → Int32) → (Nat → Int32)
  | 0, _, f => f
  | n + 1, g, f => m_forkL p q n (g + 1) (upd f (ix (6 * q + nI g)) (f (ix (6 * p + nI g))))
def m_fork (s : Sg) (p : Int32) : Int32 × Int32 × Sg :=
  if m_isP (sg_th s) p = 0 then (0, 1, s) else
  if 0 ≤ m_lowP (sg_th s) 6 0 then (m_lowP (sg_th s) 6 0, 0, su_pg (su_th s (upd (sg_th s) (ix (m_lowP (sg_th s) 6 0)) 1)) (m_forkL p (m_lowP (sg_th s) 6 0) 6 0 (sg_pg s))) else (0, 2, s)
def m_exitL (p : Int32) : Nat → Nat → Int32 → Sg → Int32 × Sg
  | 0, _, x, s => (x, s)
  | n + 1, g, x, s => m_exitL p n (g + 1) (if (m_empty s (6 * p + nI g)).1 = 0 then x else x + 1) (m_empty s (6 * p + nI g)).2
def m_exit (s : Sg) (p : Int32) : Int32 × Int32 × Sg :=
  if m_isP (sg_th s) p = 0 then (0, 1, s) else ((m_exitL p 6 0 0 (su_th s (upd (sg_th s) (ix p) 0))).1, 0, (m_exitL p 6 0 0 (su_th s (upd (sg_th s) (ix p) 0))).2)
def m_drop (s : Sg) (p g : Int32) : Int32 × Int32 × Sg :=
  if m_isP (sg_th s) p = 0 then (0, 1, s) else if g < 0 then (0, 2, s) else if g ≤ 5 then ((m_empty s (6 * p + g)).1, 0, (m_empty s (6 * p + g)).2) else (0, 2, s)
def m_loaded (F S : Nat) (s : Sg) (p a : Int32) : Int32 × Sg :=
  if 0 ≤ sg_pg s (ix (6 * p + a / 4)) then
    let h := sg_pg s (ix (6 * p + a / 4))
    let s1 := m_bringIn F S s h
    (sg_wd s1 (ix (4 * h + (a - a / 4 * 4))), su_mk s1 (upd (sg_mk s1) (ix (sg_li s1 (ix h))) 1))
  else (0, s)
def m_needs (pg : Nat → Int32) (p a : Int32) : Int32 :=
  if pg (ix (6 * p + a / 4)) < 0 then 1 else if m_owners pg (pg (ix (6 * p + a / 4))) ≤ 1 then 0 else 1
def m_sto1 (F S : Nat) (s : Sg) (p a : Int32) : Sg :=
  if m_needs (sg_pg s) p a = 0 then m_bringIn F S s (sg_pg s (ix (6 * p + a / 4))) else m_make F S s (6 * p + a / 4) (sg_pg s (ix (6 * p + a / 4)))
def m_stored (F S : Nat) (s : Sg) (p a x : Int32) : Sg :=
  let s1 := m_sto1 F S s p a
  let h := sg_pg s1 (ix (6 * p + a / 4))
  su_wd (su_mk s1 (upd (sg_mk s1) (ix (sg_li s1 (ix h))) 1)) (upd (sg_wd s1) (ix (4 * h + (a - a / 4 * 4))) x)
def m_load (F S : Nat) (s : Sg) (p a : Int32) : Int32 × Int32 × Sg :=
  if m_isP (sg_th s) p = 0 then (0, 1, s) else if m_isA a = 0 then (0, 2, s) else ((m_loaded F S s p a).1, 0, (m_loaded F S s p a).2)
def m_store (F S : Nat) (s : Sg) (p a x : Int32) : Int32 × Sg :=
  if m_isP (sg_th s) p = 0 then (1, s) else if m_isA a = 0 then (2, s) else
  if m_needs (sg_pg s) p a = 0 then (0, m_stored F S s p a x) else if m_canMake F S (sg_li s) = 0 then (3, s) else (0, m_stored F S s p a x)
def m_copyL (F S : Nat) (p a d : Int32) : Nat → Sg → Int32 × Sg
  | 0, s => (0, s)
  | n + 1, s =>
    if m_needs (sg_pg (m_loaded F S s p (a + sg_cp s)).2) p (d + sg_cp (m_loaded F S s p (a + sg_cp s)).2) = 0 then
      m_copyL F S p a d n (su_cp (m_stored F S (m_loaded F S s p (a + sg_cp s)).2 p (d + sg_cp (m_loaded F S s p (a + sg_cp s)).2) (m_loaded F S s p (a + sg_cp s)).1) (sg_cp (m_stored F S (m_loaded F S s p (a + sg_cp s)).2 p (d + sg_cp (m_loaded F S s p (a + sg_cp s)).2) (m_loaded F S s p (a + sg_cp s)).1) + 1))
    else if m_canMake F S (sg_li (m_loaded F S s p (a + sg_cp s)).2) = 0 then (3, (m_loaded F S s p (a + sg_cp s)).2)
    else m_copyL F S p a d n (su_cp (m_stored F S (m_loaded F S s p (a + sg_cp s)).2 p (d + sg_cp (m_loaded F S s p (a + sg_cp s)).2) (m_loaded F S s p (a + sg_cp s)).1) (sg_cp (m_stored F S (m_loaded F S s p (a + sg_cp s)).2 p (d + sg_cp (m_loaded F S s p (a + sg_cp s)).2) (m_loaded F S s p (a + sg_cp s)).1) + 1))
def m_bad (a d n : Int32) : Int32 :=
  if n < 0 then 1 else if 24 < n then 1 else if n ≤ 0 then 0 else if m_isA a = 0 then 1 else if m_isA d = 0 then 1 else if 24 < a + n then 1 else if d + n ≤ 24 then 0 else 1
def m_copy (F S : Nat) (s : Sg) (p a d n : Int32) : Int32 × Sg :=
  if m_isP (sg_th s) p = 0 then (1, s) else if m_bad a d n = 0 then m_copyL F S p a d (ix n) (su_cp s 0) else (2, s)
def m_sheetOf (s : Sg) (p g : Int32) : Int32 := if m_isP (sg_th s) p = 0 then -1 else if g < 0 then -1 else if 6 ≤ g then -1 else sg_pg s (ix (6 * p + g))
def m_where (s : Sg) (p g : Int32) : Int32 := if 0 ≤ m_sheetOf s p g then sg_li s (ix (m_sheetOf s p g)) else -1
def m_sharers (s : Sg) (p g : Int32) : Int32 := if 0 ≤ m_sheetOf s p g then m_owners (sg_pg s) (m_sheetOf s p g) else 0
def m_marked (F : Nat) (mk : Nat → Int32) (x : Int32) : Int32 := if x < 0 then 0 else if nI F ≤ x then 0 else if mk (ix x) = 0 then 0 else 1
def m_cntF (li : Nat → Int32) (o : Int32) : Nat → Nat → Int32 → Int32
  | 0, _, x => x
  | n + 1, i, x => m_cntF li o n (i + 1) (if 0 ≤ m_sheetAt li (o + nI i) then x else x + 1)
def m_cntG (li : Nat → Int32) : Nat → Nat → Int32 → Int32
  | 0, _, x => x
  | n + 1, i, x => m_cntG li n (i + 1) (if 0 ≤ m_sheetAt li (nI i) then x else x + 1)
/-! The class, as it computes. Memory: inFrame, inSlot, marks, places, pageCounts, words (rows), handAt, faultCount, evictedCount. -/
abbrev KM : Type := (Nat → Int32) × (Nat → Int32) × (Nat → Int32) × (Nat → Int32) × (Nat → Int32) × (Nat → Nat → Int32) × Int32 × Int32 × Int32
abbrev km_iF (k : KM) : Nat → Int32 := k.1
abbrev km_iS (k : KM) : Nat → Int32 := k.2.1
abbrev km_mk (k : KM) : Nat → Int32 := k.2.2.1
abbrev km_pl (k : KM) : Nat → Int32 := k.2.2.2.1
abbrev km_ct (k : KM) : Nat → Int32 := k.2.2.2.2.1
abbrev km_wd (k : KM) : Nat → Nat → Int32 := k.2.2.2.2.2.1
abbrev km_hd (k : KM) : Int32 := k.2.2.2.2.2.2.1
abbrev km_fl (k : KM) : Int32 := k.2.2.2.2.2.2.2.1
abbrev km_ev (k : KM) : Int32 := k.2.2.2.2.2.2.2.2
abbrev ku_iF (k : KM) (f : Nat → Int32) : KM := (f, k.2)
abbrev ku_iS (k : KM) (f : Nat → Int32) : KM := (k.1, f, k.2.2)
abbrev ku_mk (k : KM) (f : Nat → Int32) : KM := (k.1, k.2.1, f, k.2.2.2)
abbrev ku_pl (k : KM) (f : Nat → Int32) : KM := (k.1, k.2.1, k.2.2.1, f, k.2.2.2.2)
abbrev ku_ct (k : KM) (f : Nat → Int32) : KM := (k.1, k.2.1, k.2.2.1, k.2.2.2.1, f, k.2.2.2.2.2)
abbrev ku_wd (k : KM) (f : Nat → Nat → Int32) : KM := (k.1, k.2.1, k.2.2.1, k.2.2.2.1, k.2.2.2.2.1, f, k.2.2.2.2.2.2)
abbrev ku_hd (k : KM) (x : Int32) : KM := (k.1, k.2.1, k.2.2.1, k.2.2.2.1, k.2.2.2.2.1, k.2.2.2.2.2.1, x, k.2.2.2.2.2.2.2)
abbrev ku_fl (k : KM) (x : Int32) : KM := (k.1, k.2.1, k.2.2.1, k.2.2.2.1, k.2.2.2.2.1, k.2.2.2.2.2.1, k.2.2.2.2.2.2.1, x, k.2.2.2.2.2.2.2.2)
abbrev ku_ev (k : KM) (x : Int32) : KM := (k.1, k.2.1, k.2.2.1, k.2.2.2.1, k.2.2.2.2.1, k.2.2.2.2.2.1, k.2.2.2.2.2.2.1, k.2.2.2.2.2.2.2.1, x)
def k_low (f : Nat → Int32) : Nat → Nat → Int32
  | 0, _ => -1
  | n + 1, i => if f i = -1 then nI i else k_low f n (i + 1)
def k_cnt (f : Nat → Int32) : Nat → Nat → Int32 → Int32
  | 0, _, a => a
  | n + 1, i, a => k_cnt f n (i + 1) (if f i = -1 then a + 1 else a)
def k_next (F : Nat) (h : Int32) : Int32 := if nI F ≤ h + 1 then 0 else h + 1
def k_sweep (F : Nat) : Nat → (Nat → Int32) → Int32 → (Nat → Int32) × Int32
  | 0, mq, h => (mq, h)
  | n + 1, mq, h => if mq (ix h) = 0 then (mq, h) else k_sweep F n (upd mq (ix h) 0) (k_next F h)
def k_evict (F : Nat) (k : KM) (slot : Int32) : Int32 × KM :=
  let q := k_sweep F F (km_mk k) (km_hd k)
  let a := km_iF k (ix q.2)
  (q.2, (upd (km_iF k) (ix q.2) (-1), upd (km_iS k) (ix slot) a, q.1, upd (km_pl k) (ix a) (100 + slot), km_ct k, km_wd k, k_next F q.2, km_fl k, km_ev k + 1))
def k_getFrame (F S : Nat) (k : KM) : Int32 × KM :=
  if k_low (km_iF k) F 0 = -1 then (if k_low (km_iS k) S 0 = -1 then (-1, k) else k_evict F k (k_low (km_iS k) S 0)) else (k_low (km_iF k) F 0, k)
def k_lay (k : KM) (a f : Int32) : KM :=
  ku_fl (ku_pl (ku_iF k (upd (km_iF k) (ix f) a)) (upd (km_pl k) (ix a) f)) (km_fl k + 1)
def k_freePlace (k : KM) (pl : Int32) : KM :=
  if pl < 100 then ku_mk (ku_iF k (upd (km_iF k) (ix pl) (-1))) (upd (km_mk k) (ix pl) 0) else ku_iS k (upd (km_iS k) (ix (pl - 100)) (-1))
def k_bringIn (F S : Nat) (k : KM) (a : Int32) : KM :=
  let q := k_getFrame F S (k_freePlace k (km_pl k (ix a)))
  k_lay q.2 a q.1
def k_tch (F S : Nat) (k : KM) (a : Int32) : KM := if km_pl k (ix a) < 100 then k else k_bringIn F S k a
def k_touch (F S : Nat) (k : KM) (a : Int32) : KM :=
  ku_mk (k_tch F S k a) (upd (km_mk (k_tch F S k a)) (ix (km_pl (k_tch F S k a) (ix a))) 1)
def k_join (k : KM) (a : Int32) : KM := ku_ct k (upd (km_ct k) (ix a) (km_ct k (ix a) + 1))
def k_leave (k : KM) (a : Int32) : Int32 × KM :=
  let k1 := ku_ct k (upd (km_ct k) (ix a) (km_ct k (ix a) - 1))
  if km_ct k (ix a) - 1 ≤ 0 then (1, ku_pl (k_freePlace k1 (km_pl k (ix a))) (upd (km_pl (k_freePlace k1 (km_pl k (ix a)))) (ix a) (-1))) else (0, k1)
def k_make (F S : Nat) (k : KM) : Int32 × KM :=
  if k_low (km_pl k) (F + S) 0 = -1 then (-1, k) else
  if (k_getFrame F S k).1 = -1 then (-1, (k_getFrame F S k).2) else
  let k1 := (k_getFrame F S k).2
  let a := k_low (km_pl k) (F + S) 0
  (a, k_lay (ku_ct (ku_wd k1 (up2 (km_wd k1) (ix a) (fun _ => 0))) (upd (km_ct k1) (ix a) 1)) a (k_getFrame F S k).1)
def k_write (F S : Nat) (k : KM) (a i w : Int32) : KM :=
  ku_wd (k_touch F S k a) (up2 (km_wd (k_touch F S k a)) (ix a) (upd (km_wd (k_touch F S k a) (ix a)) (ix i) w))
def k_cpw (k : KM) (a b : Int32) : KM := ku_wd k (up2 (km_wd k) (ix b) (va_cpy (km_wd k (ix a)) (km_wd k (ix b)) 0 0 4))
