/-! every query, both -/
/-- as jnt, with a long -/
def jntL (m o : Nat) (as : List zVal) : Prop := ∀ L xs h F C, wOK L xs h F C → ∃ x h1 h' F' C', zc m (zR (some 0) :: as) (zw h F C) = some (zL (i64 x), h1) ∧ zc o (zR (some 72) :: as) h1 = some (zL (i64 x), zw h' F' C') ∧ (∃ F1 C1, h1 = zw h' F1 C1) ∧ wOK L xs h' F' C'
theorem jnt_l {m o : Nat} {as : List zVal} {sp : (Int → Int) → Int} (c : ans1 m 0 as (fun A => zL (i64 (sp A)))) (r : ans1 o 72 as (fun A => zL (i64 (sp A)))) : jntL m o as := by
  intro L xs h F C W
  obtain ⟨F1, C1, e1, t1⟩ := c h F C W.1
  have W1 := W.tq t1
  obtain ⟨F2, C2, e2, t2⟩ := r h F1 C1 W1.1
  exact ⟨sp (C 73), _, h, F2, C2, e1, by rw [e2, (t1 73 (by omega)).2], zw_is, W1.tq t2⟩
theorem j_alike {d x y : Int} (hd : inI d) (hx : inI x) (hy : inI y) : jnt 162 252 [zI (i32 d), zI (i32 x), zI (i32 y)] := jnt_q (c_alike hd hx hy) (m_alike hd hx hy)
theorem j_note {d r p q b : Int} (hd : inI d) (hr : inI r) (hp : inI p) (hq : inI q) (hb : inI b) : jnt 155 241 [zI (i32 d), zI (i32 r), zI (i32 p), zI (i32 q), zI (i32 b)] := jnt_q (c_note hd hr hp hq hb) (m_note hd hr hp hq hb)
theorem j_told {d q x : Int} (hd : inI d) (hq : inI q) (hx : inI x) : jnt 164 254 [zI (i32 d), zI (i32 q), zI (i32 x)] := jnt_q (c_told hd hq hx) (m_told hd hq hx)
theorem j_weather {d r p q x : Int} (hd : inI d) (hr : inI r) (hp : inI p) (hq : inI q) (hx : inI x) : jnt 165 255 [zI (i32 d), zI (i32 r), zI (i32 p), zI (i32 q), zI (i32 x)] := jnt_q (c_weather hd hr hp hq hx) (m_weather hd hr hp hq hx)
theorem j_ripe {d r p q x : Int} (hd : inI d) (hr : inI r) (hp : inI p) (hq : inI q) (hx : inI x) : jnt 171 258 [zI (i32 d), zI (i32 r), zI (i32 p), zI (i32 q), zI (i32 x)] := jnt_q (c_ripe hd hr hp hq hx) (m_ripe hd hr hp hq hx)
theorem j_chant {d r p q x : Int} (hd : inI d) (hr : inI r) (hp : inI p) (hq : inI q) (hx : inI x) : jnt 170 257 [zI (i32 d), zI (i32 r), zI (i32 p), zI (i32 q), zI (i32 x)] := jnt_q (c_chant hd hr hp hq hx) (m_chant hd hr hp hq hx)
theorem j_deepest {d r p : Int} (hd : inI d) (hr : inI r) (hp : inI p) : jnt 172 259 [zI (i32 d), zI (i32 r), zI (i32 p)] := jnt_q (c_deepest hd hr hp) (m_deepest hd hr hp)
theorem j_edit {d r p x : Int} (hd : inI d) (hr : inI r) (hp : inI p) (hx : inI x) : jnt 174 262 [zI (i32 d), zI (i32 r), zI (i32 p), zI (i32 x)] := jnt_q (c_edit hd hr hp hx) (m_edit hd hr hp hx)
theorem j_wets {d r : Int} (hd : inI d) (hr : inI r) : jnt 184 281 [zI (i32 d), zI (i32 r)] := jnt_q (c_wets hd hr) (m_wets hd hr)
theorem j_clearest {d q b : Int} (hd : inI d) (hq : inI q) (hb : inI b) : jnt 185 283 [zI (i32 d), zI (i32 q), zI (i32 b)] := jnt_q (c_clearest hd hq hb) (m_clearest hd hq hb)
theorem j_lows {d : Int} (hd : inI d) : jnt 163 253 [zI (i32 d)] := jnt_q (c_lows hd) (m_lows hd)
theorem j_fairest {d x b : Int} (hd : inI d) (hx : inI x) (hb : inI b) : jnt 180 285 [zI (i32 d), zI (i32 x), zI (i32 b)] := jnt_q (c_fairest hd hx hb) (m_fairest hd hx hb)
theorem j_marched {d q : Int} (hd : inI d) (hq : inI q) : jnt 177 270 [zI (i32 d), zI (i32 q)] := jnt_q (c_marched hd hq) (m_marched hd hq)
theorem j_chords {d p q : Int} (hd : inI d) (hp : inI p) (hq : inI q) : jnt 178 272 [zI (i32 d), zI (i32 p), zI (i32 q)] := jnt_q (c_chords hd hp hq) (m_chords hd hp hq)
theorem j_twins {d x : Int} (hd : inI d) (hx : inI x) : jnt 179 275 [zI (i32 d), zI (i32 x)] := jnt_q (c_twins hd hx) (m_twins hd hx)
theorem j_choir {d p b : Int} (hd : inI d) (hp : inI p) (hb : inI b) : jnt 175 264 [zI (i32 d), zI (i32 p), zI (i32 b)] := jnt_q (c_choir hd hp hb) (m_choir hd hp hb)
theorem j_peace {d p b : Int} (hd : inI d) (hp : inI p) (hb : inI b) : jnt 176 267 [zI (i32 d), zI (i32 p), zI (i32 b)] := jnt_q (c_peace hd hp hb) (m_peace hd hp hb)
theorem j_owns {d x b : Int} (hd : inI d) (hx : inI x) (hb : inI b) : jnt 183 280 [zI (i32 d), zI (i32 x), zI (i32 b)] := jnt_q (c_owns hd hx hb) (m_owns hd hx hb)
theorem j_dare {d r p b : Int} (hd : inI d) (hr : inI r) (hp : inI p) (hb : inI b) : jnt 161 251 [zI (i32 d), zI (i32 r), zI (i32 p), zI (i32 b)] := jnt_q (c_dare hd hr hp hb) (m_dare hd hr hp hb)
theorem j_program {d r p k : Int} (hd : inI d) (hr : inI r) (hp : inI p) (hk : inI k) : jnt 173 261 [zI (i32 d), zI (i32 r), zI (i32 p), zI (i32 k)] := jnt_q (c_program hd hr hp hk) (m_program hd hr hp hk)
theorem j_favour {d p x k : Int} (hd : inI d) (hp : inI p) (hx : inI x) (hk : inI k) : jnt 160 248 [zI (i32 d), zI (i32 p), zI (i32 x), zI (i32 k)] := jnt_q (c_favour hd hp hx hk) (m_favour hd hp hx hk)
theorem j_ready {d r p q x k : Int} (hd : inI d) (hr : inI r) (hp : inI p) (hq : inI q) (hx : inI x) (hk : inI k) : jnt 159 244 [zI (i32 d), zI (i32 r), zI (i32 p), zI (i32 q), zI (i32 x), zI (i32 k)] := jnt_q (c_ready hd hr hp hq hx hk) (m_ready hd hr hp hq hx hk)
theorem j_fits {d l w : Int} (hd : inI d) (hl : inI l) (hw : inI w) : jnt 167 312 [zI (i32 d), zI (i32 l), zI (i32 w)] := jnt_q (c_fits hd hl hw) (m_fits hd hl hw)
theorem j_odds {d l p q x b : Int} (hd : inI d) (hl : inI l) (hp : inI p) (hq : inI q) (hx : inI x) (hb : inI b) : jntL 182 315 [zI (i32 d), zI (i32 l), zI (i32 p), zI (i32 q), zI (i32 x), zI (i32 b)] := jnt_l (c_odds hd hl hp hq hx hb) (m_odds hd hl hp hq hx hb)
theorem j_left {n k y p b : Int} (hn : inI n) (hk : inI k) (hy : inI y) (hp : inI p) (hb : inI b) : jntL 168 316 [zI (i32 n), zI (i32 k), zI (i32 y), zI (i32 p), zI (i32 b)] := jnt_l (c_left hn hk hy hp hb) (m_left hn hk hy hp hb)
theorem j_stop {d y : Int} (hd : inI d) (hy : inI y) : jnt 157 299 [zI (i32 d), zI (i32 y)] := jnt_q (c_stop hd hy) (m_stop hd hy)
theorem j_state {d y n w : Int} (hd : inI d) (hy : inI y) (hn : inI n) (hw : inI w) : jnt 158 303 [zI (i32 d), zI (i32 y), zI (i32 n), zI (i32 w)] := jnt_q (c_state hd hy hn hw) (m_state hd hy hn hw)
theorem j_drawn {d s n w : Int} (hd : inI d) (hs : inI s) (hn : inI n) (hw : inI w) : jnt 169 319 [zI (i32 d), zI (i32 s), zI (i32 n), zI (i32 w)] := jnt_q (c_drawn hd hs hn hw) (m_drawn hd hs hn hw)
theorem j_after {d y w : Int} (hd : inI d) (hy : inI y) (hw : inI w) : jnt 181 301 [zI (i32 d), zI (i32 y), zI (i32 w)] := jnt_q (c_after hd hy hw) (m_after hd hy hw)
theorem j_faultQ {w : Int} (hw : inI w) : jnt 153 225 [zI (i32 w)] := jnt_q (c_faultQ hw) (m_faultQ hw)
theorem j_countQ {w : Int} (hw : inI w) : jnt 186 320 [zI (i32 w)] := jnt_q (c_countQ hw) (m_countQ hw)
theorem j_duchyQ {d w : Int} (hd : inI d) (hw : inI w) : jnt 154 235 [zI (i32 d), zI (i32 w)] := jnt_q (c_duchyQ hd hw) (m_duchyQ hd hw)
theorem j_deedQ {y k w : Int} (hy : inI y) (hk : inI k) (hw : inI w) : jnt 156 287 [zI (i32 y), zI (i32 k), zI (i32 w)] := jnt_q (c_deedQ hy hk hw) (m_deedQ hy hk hw)
theorem j_factQ {y k w : Int} (hy : inI y) (hk : inI k) (hw : inI w) : jnt 166 305 [zI (i32 y), zI (i32 k), zI (i32 w)] := jnt_q (c_factQ hy hk hw) (m_factQ hy hk hw)
