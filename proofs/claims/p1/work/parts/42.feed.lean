/-! feed ON A FRESH KEEPER AND A FRESH REFERENCE. -/
def hp_f (n : Int32) (f : Nat → Int32) (m : Int32) (g : Nat → Int32) : List va_E := [.inr (0, [.ref 1, .ref 3, .ref 4, .ref 6, .ref 9, .ref 14]), .inr (1, [.ref 2, .int n]), .inl (0, 400, .inl f), .inr (2, [.ref 1, .int 0, .int 0, .int 0]), .inr (3, [.ref 5, .int 0, .int 0]), hp_q 5 32, .inr (4, [.ref 7, .ref 8, .int 0]), hp_l 1 6, hp_q 6 6, .inr (5, [.ref 4, .ref 6, .ref 10, .ref 11, .int 0, .ref 12, .ref 13, .int 0, .int 0, .int 0, .int 0, .int 0, .int 0]), hp_a 2 8, hp_l 1 8, hp_a 2 32, hp_a 2 32, .inr (6, [.ref 15, .int 1, .int 0, .ref 16, .ref 17, .int 0]), .inl (7, 4, .inr (.inr (.inr (.inr (va_up (fun _ => none) 0 (some 18)))))), hp_a 2 16, hp_a 2 16, .inr (7, [.ref 20, .ref 21, .int 0]), hp_q 5 0, hp_q 5 0, hp_a 2 0, hp_a 2 0, .inr (12, [.ref 24, .int m, .ref 25, .int 0, .int 0, .ref 26, .int 0, .int 0, .ref 27, .ref 28, .int 0, .ref 29, .int 1, .int 0, .ref 30, .ref 31, .int 0, .ref 32, .int 0, .ref 33, .ref 34, .int 0, .int 0, .ref 35]), .inl (0, 400, .inl g), hp_q 9 400, hp_q 10 32, hp_q 9 6, hp_q 11 6, .inl (12, 4, .inr (.inr (.inr (.inr (va_up (fun _ => none) 0 (some 36)))))), hp_q 10 16, hp_a 4 16, hp_q 9 8, hp_q 10 8, hp_q 10 8, hp_a 4 8, .inr (13, [.ref 37, .ref 38, .int 0]), hp_q 10 8, hp_a 2 8]
set_option maxRecDepth 100000 in
set_option maxHeartbeats 4000000 in
theorem xl_0 {X : Nat × (Nat → Int32)} {d : Nat} {f g : Nat → Int32} {m a : Int32} {Q : Option Value → List va_E → Prop} (k : ∀ f', rt_ X d 15 3 [some (.ref 1), some (.int a), some (.int (16))] [] (hp_f 1 f' m g) Q) : rt_ X d 15 3 [some (.ref 1), some (.int a), some (.int 24)] [] (hp_f 0 f m g) Q :=
  rt_k (k := 25) (pc' := 3) (L' := [some (.ref 1), some (.int a), some (.int (16))]) (st' := []) (h' := hp_f 1 (upd f 0 (vp_nar .char ((((a.toUInt32 >>> ((24 : Int32).toUInt32 &&& Int32.toUInt32 31)).toInt32 &&& 255).toUInt32 % 65536).toInt32))) m g) (fun _ => rfl) (k _)
set_option maxRecDepth 100000 in
set_option maxHeartbeats 4000000 in
theorem xl_1 {X : Nat × (Nat → Int32)} {d : Nat} {f g : Nat → Int32} {m a : Int32} {Q : Option Value → List va_E → Prop} (k : ∀ f', rt_ X d 15 3 [some (.ref 1), some (.int a), some (.int (8))] [] (hp_f 2 f' m g) Q) : rt_ X d 15 3 [some (.ref 1), some (.int a), some (.int 16)] [] (hp_f 1 f m g) Q :=
  rt_k (k := 25) (pc' := 3) (L' := [some (.ref 1), some (.int a), some (.int (8))]) (st' := []) (h' := hp_f 2 (upd f 1 (vp_nar .char ((((a.toUInt32 >>> ((16 : Int32).toUInt32 &&& Int32.toUInt32 31)).toInt32 &&& 255).toUInt32 % 65536).toInt32))) m g) (fun _ => rfl) (k _)
set_option maxRecDepth 100000 in
set_option maxHeartbeats 4000000 in
theorem xl_2 {X : Nat × (Nat → Int32)} {d : Nat} {f g : Nat → Int32} {m a : Int32} {Q : Option Value → List va_E → Prop} (k : ∀ f', rt_ X d 15 3 [some (.ref 1), some (.int a), some (.int (0))] [] (hp_f 3 f' m g) Q) : rt_ X d 15 3 [some (.ref 1), some (.int a), some (.int 8)] [] (hp_f 2 f m g) Q :=
  rt_k (k := 25) (pc' := 3) (L' := [some (.ref 1), some (.int a), some (.int (0))]) (st' := []) (h' := hp_f 3 (upd f 2 (vp_nar .char ((((a.toUInt32 >>> ((8 : Int32).toUInt32 &&& Int32.toUInt32 31)).toInt32 &&& 255).toUInt32 % 65536).toInt32))) m g) (fun _ => rfl) (k _)
set_option maxRecDepth 100000 in
set_option maxHeartbeats 4000000 in
theorem xl_3 {X : Nat × (Nat → Int32)} {d : Nat} {f g : Nat → Int32} {m a : Int32} {Q : Option Value → List va_E → Prop} (k : ∀ f', rt_ X d 15 3 [some (.ref 1), some (.int a), some (.int (-8))] [] (hp_f 4 f' m g) Q) : rt_ X d 15 3 [some (.ref 1), some (.int a), some (.int 0)] [] (hp_f 3 f m g) Q :=
  rt_k (k := 25) (pc' := 3) (L' := [some (.ref 1), some (.int a), some (.int (-8))]) (st' := []) (h' := hp_f 4 (upd f 3 (vp_nar .char ((((a.toUInt32 >>> ((0 : Int32).toUInt32 &&& Int32.toUInt32 31)).toInt32 &&& 255).toUInt32 % 65536).toInt32))) m g) (fun _ => rfl) (k _)
set_option maxRecDepth 100000 in
set_option maxHeartbeats 4000000 in
theorem xl_4 {X : Nat × (Nat → Int32)} {d : Nat} {f g : Nat → Int32} {m a : Int32} {Q : Option Value → List va_E → Prop} (k : ∀ f', rt_ X d 15 3 [some (.ref 1), some (.int a), some (.int (16))] [] (hp_f 5 f' m g) Q) : rt_ X d 15 3 [some (.ref 1), some (.int a), some (.int 24)] [] (hp_f 4 f m g) Q :=
  rt_k (k := 25) (pc' := 3) (L' := [some (.ref 1), some (.int a), some (.int (16))]) (st' := []) (h' := hp_f 5 (upd f 4 (vp_nar .char ((((a.toUInt32 >>> ((24 : Int32).toUInt32 &&& Int32.toUInt32 31)).toInt32 &&& 255).toUInt32 % 65536).toInt32))) m g) (fun _ => rfl) (k _)
set_option maxRecDepth 100000 in
set_option maxHeartbeats 4000000 in
theorem xl_5 {X : Nat × (Nat → Int32)} {d : Nat} {f g : Nat → Int32} {m a : Int32} {Q : Option Value → List va_E → Prop} (k : ∀ f', rt_ X d 15 3 [some (.ref 1), some (.int a), some (.int (8))] [] (hp_f 6 f' m g) Q) : rt_ X d 15 3 [some (.ref 1), some (.int a), some (.int 16)] [] (hp_f 5 f m g) Q :=
  rt_k (k := 25) (pc' := 3) (L' := [some (.ref 1), some (.int a), some (.int (8))]) (st' := []) (h' := hp_f 6 (upd f 5 (vp_nar .char ((((a.toUInt32 >>> ((16 : Int32).toUInt32 &&& Int32.toUInt32 31)).toInt32 &&& 255).toUInt32 % 65536).toInt32))) m g) (fun _ => rfl) (k _)
set_option maxRecDepth 100000 in
set_option maxHeartbeats 4000000 in
theorem xl_6 {X : Nat × (Nat → Int32)} {d : Nat} {f g : Nat → Int32} {m a : Int32} {Q : Option Value → List va_E → Prop} (k : ∀ f', rt_ X d 15 3 [some (.ref 1), some (.int a), some (.int (0))] [] (hp_f 7 f' m g) Q) : rt_ X d 15 3 [some (.ref 1), some (.int a), some (.int 8)] [] (hp_f 6 f m g) Q :=
  rt_k (k := 25) (pc' := 3) (L' := [some (.ref 1), some (.int a), some (.int (0))]) (st' := []) (h' := hp_f 7 (upd f 6 (vp_nar .char ((((a.toUInt32 >>> ((8 : Int32).toUInt32 &&& Int32.toUInt32 31)).toInt32 &&& 255).toUInt32 % 65536).toInt32))) m g) (fun _ => rfl) (k _)
set_option maxRecDepth 100000 in
set_option maxHeartbeats 4000000 in
theorem xl_7 {X : Nat × (Nat → Int32)} {d : Nat} {f g : Nat → Int32} {m a : Int32} {Q : Option Value → List va_E → Prop} (k : ∀ f', rt_ X d 15 3 [some (.ref 1), some (.int a), some (.int (-8))] [] (hp_f 8 f' m g) Q) : rt_ X d 15 3 [some (.ref 1), some (.int a), some (.int 0)] [] (hp_f 7 f m g) Q :=
  rt_k (k := 25) (pc' := 3) (L' := [some (.ref 1), some (.int a), some (.int (-8))]) (st' := []) (h' := hp_f 8 (upd f 7 (vp_nar .char ((((a.toUInt32 >>> ((0 : Int32).toUInt32 &&& Int32.toUInt32 31)).toInt32 &&& 255).toUInt32 % 65536).toInt32))) m g) (fun _ => rfl) (k _)
set_option maxRecDepth 100000 in
set_option maxHeartbeats 4000000 in
theorem xl_8 {X : Nat × (Nat → Int32)} {d : Nat} {f g : Nat → Int32} {m a : Int32} {Q : Option Value → List va_E → Prop} (k : ∀ f', rt_ X d 15 3 [some (.ref 1), some (.int a), some (.int (16))] [] (hp_f 9 f' m g) Q) : rt_ X d 15 3 [some (.ref 1), some (.int a), some (.int 24)] [] (hp_f 8 f m g) Q :=
  rt_k (k := 25) (pc' := 3) (L' := [some (.ref 1), some (.int a), some (.int (16))]) (st' := []) (h' := hp_f 9 (upd f 8 (vp_nar .char ((((a.toUInt32 >>> ((24 : Int32).toUInt32 &&& Int32.toUInt32 31)).toInt32 &&& 255).toUInt32 % 65536).toInt32))) m g) (fun _ => rfl) (k _)
set_option maxRecDepth 100000 in
set_option maxHeartbeats 4000000 in
theorem xl_9 {X : Nat × (Nat → Int32)} {d : Nat} {f g : Nat → Int32} {m a : Int32} {Q : Option Value → List va_E → Prop} (k : ∀ f', rt_ X d 15 3 [some (.ref 1), some (.int a), some (.int (8))] [] (hp_f 10 f' m g) Q) : rt_ X d 15 3 [some (.ref 1), some (.int a), some (.int 16)] [] (hp_f 9 f m g) Q :=
  rt_k (k := 25) (pc' := 3) (L' := [some (.ref 1), some (.int a), some (.int (8))]) (st' := []) (h' := hp_f 10 (upd f 9 (vp_nar .char ((((a.toUInt32 >>> ((16 : Int32).toUInt32 &&& Int32.toUInt32 31)).toInt32 &&& 255).toUInt32 % 65536).toInt32))) m g) (fun _ => rfl) (k _)
set_option maxRecDepth 100000 in
set_option maxHeartbeats 4000000 in
theorem xl_10 {X : Nat × (Nat → Int32)} {d : Nat} {f g : Nat → Int32} {m a : Int32} {Q : Option Value → List va_E → Prop} (k : ∀ f', rt_ X d 15 3 [some (.ref 1), some (.int a), some (.int (0))] [] (hp_f 11 f' m g) Q) : rt_ X d 15 3 [some (.ref 1), some (.int a), some (.int 8)] [] (hp_f 10 f m g) Q :=
  rt_k (k := 25) (pc' := 3) (L' := [some (.ref 1), some (.int a), some (.int (0))]) (st' := []) (h' := hp_f 11 (upd f 10 (vp_nar .char ((((a.toUInt32 >>> ((8 : Int32).toUInt32 &&& Int32.toUInt32 31)).toInt32 &&& 255).toUInt32 % 65536).toInt32))) m g) (fun _ => rfl) (k _)
set_option maxRecDepth 100000 in
set_option maxHeartbeats 4000000 in
theorem xl_11 {X : Nat × (Nat → Int32)} {d : Nat} {f g : Nat → Int32} {m a : Int32} {Q : Option Value → List va_E → Prop} (k : ∀ f', rt_ X d 15 3 [some (.ref 1), some (.int a), some (.int (-8))] [] (hp_f 12 f' m g) Q) : rt_ X d 15 3 [some (.ref 1), some (.int a), some (.int 0)] [] (hp_f 11 f m g) Q :=
  rt_k (k := 25) (pc' := 3) (L' := [some (.ref 1), some (.int a), some (.int (-8))]) (st' := []) (h' := hp_f 12 (upd f 11 (vp_nar .char ((((a.toUInt32 >>> ((0 : Int32).toUInt32 &&& Int32.toUInt32 31)).toInt32 &&& 255).toUInt32 % 65536).toInt32))) m g) (fun _ => rfl) (k _)
set_option maxRecDepth 100000 in
set_option maxHeartbeats 4000000 in
theorem xl_12 {X : Nat × (Nat → Int32)} {d : Nat} {f g : Nat → Int32} {m a : Int32} {Q : Option Value → List va_E → Prop} (k : ∀ f', rt_ X d 15 3 [some (.ref 1), some (.int a), some (.int (16))] [] (hp_f 13 f' m g) Q) : rt_ X d 15 3 [some (.ref 1), some (.int a), some (.int 24)] [] (hp_f 12 f m g) Q :=
  rt_k (k := 25) (pc' := 3) (L' := [some (.ref 1), some (.int a), some (.int (16))]) (st' := []) (h' := hp_f 13 (upd f 12 (vp_nar .char ((((a.toUInt32 >>> ((24 : Int32).toUInt32 &&& Int32.toUInt32 31)).toInt32 &&& 255).toUInt32 % 65536).toInt32))) m g) (fun _ => rfl) (k _)
set_option maxRecDepth 100000 in
set_option maxHeartbeats 4000000 in
theorem xl_13 {X : Nat × (Nat → Int32)} {d : Nat} {f g : Nat → Int32} {m a : Int32} {Q : Option Value → List va_E → Prop} (k : ∀ f', rt_ X d 15 3 [some (.ref 1), some (.int a), some (.int (8))] [] (hp_f 14 f' m g) Q) : rt_ X d 15 3 [some (.ref 1), some (.int a), some (.int 16)] [] (hp_f 13 f m g) Q :=
  rt_k (k := 25) (pc' := 3) (L' := [some (.ref 1), some (.int a), some (.int (8))]) (st' := []) (h' := hp_f 14 (upd f 13 (vp_nar .char ((((a.toUInt32 >>> ((16 : Int32).toUInt32 &&& Int32.toUInt32 31)).toInt32 &&& 255).toUInt32 % 65536).toInt32))) m g) (fun _ => rfl) (k _)
set_option maxRecDepth 100000 in
set_option maxHeartbeats 4000000 in
theorem xl_14 {X : Nat × (Nat → Int32)} {d : Nat} {f g : Nat → Int32} {m a : Int32} {Q : Option Value → List va_E → Prop} (k : ∀ f', rt_ X d 15 3 [some (.ref 1), some (.int a), some (.int (0))] [] (hp_f 15 f' m g) Q) : rt_ X d 15 3 [some (.ref 1), some (.int a), some (.int 8)] [] (hp_f 14 f m g) Q :=
  rt_k (k := 25) (pc' := 3) (L' := [some (.ref 1), some (.int a), some (.int (0))]) (st' := []) (h' := hp_f 15 (upd f 14 (vp_nar .char ((((a.toUInt32 >>> ((8 : Int32).toUInt32 &&& Int32.toUInt32 31)).toInt32 &&& 255).toUInt32 % 65536).toInt32))) m g) (fun _ => rfl) (k _)
set_option maxRecDepth 100000 in
set_option maxHeartbeats 4000000 in
theorem xl_15 {X : Nat × (Nat → Int32)} {d : Nat} {f g : Nat → Int32} {m a : Int32} {Q : Option Value → List va_E → Prop} (k : ∀ f', rt_ X d 15 3 [some (.ref 1), some (.int a), some (.int (-8))] [] (hp_f 16 f' m g) Q) : rt_ X d 15 3 [some (.ref 1), some (.int a), some (.int 0)] [] (hp_f 15 f m g) Q :=
  rt_k (k := 25) (pc' := 3) (L' := [some (.ref 1), some (.int a), some (.int (-8))]) (st' := []) (h' := hp_f 16 (upd f 15 (vp_nar .char ((((a.toUInt32 >>> ((0 : Int32).toUInt32 &&& Int32.toUInt32 31)).toInt32 &&& 255).toUInt32 % 65536).toInt32))) m g) (fun _ => rfl) (k _)
set_option maxRecDepth 100000 in
set_option maxHeartbeats 4000000 in
theorem xl_16 {X : Nat × (Nat → Int32)} {d : Nat} {f g : Nat → Int32} {m a : Int32} {Q : Option Value → List va_E → Prop} (k : ∀ f', rt_ X d 15 3 [some (.ref 1), some (.int a), some (.int (16))] [] (hp_f 17 f' m g) Q) : rt_ X d 15 3 [some (.ref 1), some (.int a), some (.int 24)] [] (hp_f 16 f m g) Q :=
  rt_k (k := 25) (pc' := 3) (L' := [some (.ref 1), some (.int a), some (.int (16))]) (st' := []) (h' := hp_f 17 (upd f 16 (vp_nar .char ((((a.toUInt32 >>> ((24 : Int32).toUInt32 &&& Int32.toUInt32 31)).toInt32 &&& 255).toUInt32 % 65536).toInt32))) m g) (fun _ => rfl) (k _)
set_option maxRecDepth 100000 in
set_option maxHeartbeats 4000000 in
theorem xl_17 {X : Nat × (Nat → Int32)} {d : Nat} {f g : Nat → Int32} {m a : Int32} {Q : Option Value → List va_E → Prop} (k : ∀ f', rt_ X d 15 3 [some (.ref 1), some (.int a), some (.int (8))] [] (hp_f 18 f' m g) Q) : rt_ X d 15 3 [some (.ref 1), some (.int a), some (.int 16)] [] (hp_f 17 f m g) Q :=
  rt_k (k := 25) (pc' := 3) (L' := [some (.ref 1), some (.int a), some (.int (8))]) (st' := []) (h' := hp_f 18 (upd f 17 (vp_nar .char ((((a.toUInt32 >>> ((16 : Int32).toUInt32 &&& Int32.toUInt32 31)).toInt32 &&& 255).toUInt32 % 65536).toInt32))) m g) (fun _ => rfl) (k _)
set_option maxRecDepth 100000 in
set_option maxHeartbeats 4000000 in
theorem xl_18 {X : Nat × (Nat → Int32)} {d : Nat} {f g : Nat → Int32} {m a : Int32} {Q : Option Value → List va_E → Prop} (k : ∀ f', rt_ X d 15 3 [some (.ref 1), some (.int a), some (.int (0))] [] (hp_f 19 f' m g) Q) : rt_ X d 15 3 [some (.ref 1), some (.int a), some (.int 8)] [] (hp_f 18 f m g) Q :=
  rt_k (k := 25) (pc' := 3) (L' := [some (.ref 1), some (.int a), some (.int (0))]) (st' := []) (h' := hp_f 19 (upd f 18 (vp_nar .char ((((a.toUInt32 >>> ((8 : Int32).toUInt32 &&& Int32.toUInt32 31)).toInt32 &&& 255).toUInt32 % 65536).toInt32))) m g) (fun _ => rfl) (k _)
set_option maxRecDepth 100000 in
set_option maxHeartbeats 4000000 in
theorem xl_19 {X : Nat × (Nat → Int32)} {d : Nat} {f g : Nat → Int32} {m a : Int32} {Q : Option Value → List va_E → Prop} (k : ∀ f', rt_ X d 15 3 [some (.ref 1), some (.int a), some (.int (-8))] [] (hp_f 20 f' m g) Q) : rt_ X d 15 3 [some (.ref 1), some (.int a), some (.int 0)] [] (hp_f 19 f m g) Q :=
  rt_k (k := 25) (pc' := 3) (L' := [some (.ref 1), some (.int a), some (.int (-8))]) (st' := []) (h' := hp_f 20 (upd f 19 (vp_nar .char ((((a.toUInt32 >>> ((0 : Int32).toUInt32 &&& Int32.toUInt32 31)).toInt32 &&& 255).toUInt32 % 65536).toInt32))) m g) (fun _ => rfl) (k _)
set_option maxRecDepth 100000 in
set_option maxHeartbeats 4000000 in
theorem yl_0 {X : Nat × (Nat → Int32)} {d : Nat} {f g : Nat → Int32} {w a : Int32} {Q : Option Value → List va_E → Prop} (k : ∀ g', rt_ X d 128 3 [some (.ref 23), some (.int a), some (.int (16))] [] (hp_f w f 1 g') Q) : rt_ X d 128 3 [some (.ref 23), some (.int a), some (.int 24)] [] (hp_f w f 0 g) Q :=
  rt_k (k := 21) (pc' := 3) (L' := [some (.ref 23), some (.int a), some (.int (16))]) (st' := []) (h' := hp_f w f 1 (upd g 0 (vp_nar .char (((a >>> ((24 : Int32) &&& 31) &&& 255).toUInt32 % 65536).toInt32)))) (fun _ => rfl) (k _)
set_option maxRecDepth 100000 in
set_option maxHeartbeats 4000000 in
theorem yl_1 {X : Nat × (Nat → Int32)} {d : Nat} {f g : Nat → Int32} {w a : Int32} {Q : Option Value → List va_E → Prop} (k : ∀ g', rt_ X d 128 3 [some (.ref 23), some (.int a), some (.int (8))] [] (hp_f w f 2 g') Q) : rt_ X d 128 3 [some (.ref 23), some (.int a), some (.int 16)] [] (hp_f w f 1 g) Q :=
  rt_k (k := 21) (pc' := 3) (L' := [some (.ref 23), some (.int a), some (.int (8))]) (st' := []) (h' := hp_f w f 2 (upd g 1 (vp_nar .char (((a >>> ((16 : Int32) &&& 31) &&& 255).toUInt32 % 65536).toInt32)))) (fun _ => rfl) (k _)
set_option maxRecDepth 100000 in
set_option maxHeartbeats 4000000 in
theorem yl_2 {X : Nat × (Nat → Int32)} {d : Nat} {f g : Nat → Int32} {w a : Int32} {Q : Option Value → List va_E → Prop} (k : ∀ g', rt_ X d 128 3 [some (.ref 23), some (.int a), some (.int (0))] [] (hp_f w f 3 g') Q) : rt_ X d 128 3 [some (.ref 23), some (.int a), some (.int 8)] [] (hp_f w f 2 g) Q :=
  rt_k (k := 21) (pc' := 3) (L' := [some (.ref 23), some (.int a), some (.int (0))]) (st' := []) (h' := hp_f w f 3 (upd g 2 (vp_nar .char (((a >>> ((8 : Int32) &&& 31) &&& 255).toUInt32 % 65536).toInt32)))) (fun _ => rfl) (k _)
set_option maxRecDepth 100000 in
set_option maxHeartbeats 4000000 in
theorem yl_3 {X : Nat × (Nat → Int32)} {d : Nat} {f g : Nat → Int32} {w a : Int32} {Q : Option Value → List va_E → Prop} (k : ∀ g', rt_ X d 128 3 [some (.ref 23), some (.int a), some (.int (-8))] [] (hp_f w f 4 g') Q) : rt_ X d 128 3 [some (.ref 23), some (.int a), some (.int 0)] [] (hp_f w f 3 g) Q :=
  rt_k (k := 21) (pc' := 3) (L' := [some (.ref 23), some (.int a), some (.int (-8))]) (st' := []) (h' := hp_f w f 4 (upd g 3 (vp_nar .char (((a >>> ((0 : Int32) &&& 31) &&& 255).toUInt32 % 65536).toInt32)))) (fun _ => rfl) (k _)
set_option maxRecDepth 100000 in
set_option maxHeartbeats 4000000 in
theorem yl_4 {X : Nat × (Nat → Int32)} {d : Nat} {f g : Nat → Int32} {w a : Int32} {Q : Option Value → List va_E → Prop} (k : ∀ g', rt_ X d 128 3 [some (.ref 23), some (.int a), some (.int (16))] [] (hp_f w f 5 g') Q) : rt_ X d 128 3 [some (.ref 23), some (.int a), some (.int 24)] [] (hp_f w f 4 g) Q :=
  rt_k (k := 21) (pc' := 3) (L' := [some (.ref 23), some (.int a), some (.int (16))]) (st' := []) (h' := hp_f w f 5 (upd g 4 (vp_nar .char (((a >>> ((24 : Int32) &&& 31) &&& 255).toUInt32 % 65536).toInt32)))) (fun _ => rfl) (k _)
set_option maxRecDepth 100000 in
set_option maxHeartbeats 4000000 in
theorem yl_5 {X : Nat × (Nat → Int32)} {d : Nat} {f g : Nat → Int32} {w a : Int32} {Q : Option Value → List va_E → Prop} (k : ∀ g', rt_ X d 128 3 [some (.ref 23), some (.int a), some (.int (8))] [] (hp_f w f 6 g') Q) : rt_ X d 128 3 [some (.ref 23), some (.int a), some (.int 16)] [] (hp_f w f 5 g) Q :=
  rt_k (k := 21) (pc' := 3) (L' := [some (.ref 23), some (.int a), some (.int (8))]) (st' := []) (h' := hp_f w f 6 (upd g 5 (vp_nar .char (((a >>> ((16 : Int32) &&& 31) &&& 255).toUInt32 % 65536).toInt32)))) (fun _ => rfl) (k _)
set_option maxRecDepth 100000 in
set_option maxHeartbeats 4000000 in
theorem yl_6 {X : Nat × (Nat → Int32)} {d : Nat} {f g : Nat → Int32} {w a : Int32} {Q : Option Value → List va_E → Prop} (k : ∀ g', rt_ X d 128 3 [some (.ref 23), some (.int a), some (.int (0))] [] (hp_f w f 7 g') Q) : rt_ X d 128 3 [some (.ref 23), some (.int a), some (.int 8)] [] (hp_f w f 6 g) Q :=
  rt_k (k := 21) (pc' := 3) (L' := [some (.ref 23), some (.int a), some (.int (0))]) (st' := []) (h' := hp_f w f 7 (upd g 6 (vp_nar .char (((a >>> ((8 : Int32) &&& 31) &&& 255).toUInt32 % 65536).toInt32)))) (fun _ => rfl) (k _)
set_option maxRecDepth 100000 in
set_option maxHeartbeats 4000000 in
theorem yl_7 {X : Nat × (Nat → Int32)} {d : Nat} {f g : Nat → Int32} {w a : Int32} {Q : Option Value → List va_E → Prop} (k : ∀ g', rt_ X d 128 3 [some (.ref 23), some (.int a), some (.int (-8))] [] (hp_f w f 8 g') Q) : rt_ X d 128 3 [some (.ref 23), some (.int a), some (.int 0)] [] (hp_f w f 7 g) Q :=
  rt_k (k := 21) (pc' := 3) (L' := [some (.ref 23), some (.int a), some (.int (-8))]) (st' := []) (h' := hp_f w f 8 (upd g 7 (vp_nar .char (((a >>> ((0 : Int32) &&& 31) &&& 255).toUInt32 % 65536).toInt32)))) (fun _ => rfl) (k _)
set_option maxRecDepth 100000 in
set_option maxHeartbeats 4000000 in
theorem yl_8 {X : Nat × (Nat → Int32)} {d : Nat} {f g : Nat → Int32} {w a : Int32} {Q : Option Value → List va_E → Prop} (k : ∀ g', rt_ X d 128 3 [some (.ref 23), some (.int a), some (.int (16))] [] (hp_f w f 9 g') Q) : rt_ X d 128 3 [some (.ref 23), some (.int a), some (.int 24)] [] (hp_f w f 8 g) Q :=
  rt_k (k := 21) (pc' := 3) (L' := [some (.ref 23), some (.int a), some (.int (16))]) (st' := []) (h' := hp_f w f 9 (upd g 8 (vp_nar .char (((a >>> ((24 : Int32) &&& 31) &&& 255).toUInt32 % 65536).toInt32)))) (fun _ => rfl) (k _)
set_option maxRecDepth 100000 in
set_option maxHeartbeats 4000000 in
theorem yl_9 {X : Nat × (Nat → Int32)} {d : Nat} {f g : Nat → Int32} {w a : Int32} {Q : Option Value → List va_E → Prop} (k : ∀ g', rt_ X d 128 3 [some (.ref 23), some (.int a), some (.int (8))] [] (hp_f w f 10 g') Q) : rt_ X d 128 3 [some (.ref 23), some (.int a), some (.int 16)] [] (hp_f w f 9 g) Q :=
  rt_k (k := 21) (pc' := 3) (L' := [some (.ref 23), some (.int a), some (.int (8))]) (st' := []) (h' := hp_f w f 10 (upd g 9 (vp_nar .char (((a >>> ((16 : Int32) &&& 31) &&& 255).toUInt32 % 65536).toInt32)))) (fun _ => rfl) (k _)
set_option maxRecDepth 100000 in
set_option maxHeartbeats 4000000 in
theorem yl_10 {X : Nat × (Nat → Int32)} {d : Nat} {f g : Nat → Int32} {w a : Int32} {Q : Option Value → List va_E → Prop} (k : ∀ g', rt_ X d 128 3 [some (.ref 23), some (.int a), some (.int (0))] [] (hp_f w f 11 g') Q) : rt_ X d 128 3 [some (.ref 23), some (.int a), some (.int 8)] [] (hp_f w f 10 g) Q :=
  rt_k (k := 21) (pc' := 3) (L' := [some (.ref 23), some (.int a), some (.int (0))]) (st' := []) (h' := hp_f w f 11 (upd g 10 (vp_nar .char (((a >>> ((8 : Int32) &&& 31) &&& 255).toUInt32 % 65536).toInt32)))) (fun _ => rfl) (k _)
set_option maxRecDepth 100000 in
set_option maxHeartbeats 4000000 in
theorem yl_11 {X : Nat × (Nat → Int32)} {d : Nat} {f g : Nat → Int32} {w a : Int32} {Q : Option Value → List va_E → Prop} (k : ∀ g', rt_ X d 128 3 [some (.ref 23), some (.int a), some (.int (-8))] [] (hp_f w f 12 g') Q) : rt_ X d 128 3 [some (.ref 23), some (.int a), some (.int 0)] [] (hp_f w f 11 g) Q :=
  rt_k (k := 21) (pc' := 3) (L' := [some (.ref 23), some (.int a), some (.int (-8))]) (st' := []) (h' := hp_f w f 12 (upd g 11 (vp_nar .char (((a >>> ((0 : Int32) &&& 31) &&& 255).toUInt32 % 65536).toInt32)))) (fun _ => rfl) (k _)
set_option maxRecDepth 100000 in
set_option maxHeartbeats 4000000 in
theorem yl_12 {X : Nat × (Nat → Int32)} {d : Nat} {f g : Nat → Int32} {w a : Int32} {Q : Option Value → List va_E → Prop} (k : ∀ g', rt_ X d 128 3 [some (.ref 23), some (.int a), some (.int (16))] [] (hp_f w f 13 g') Q) : rt_ X d 128 3 [some (.ref 23), some (.int a), some (.int 24)] [] (hp_f w f 12 g) Q :=
  rt_k (k := 21) (pc' := 3) (L' := [some (.ref 23), some (.int a), some (.int (16))]) (st' := []) (h' := hp_f w f 13 (upd g 12 (vp_nar .char (((a >>> ((24 : Int32) &&& 31) &&& 255).toUInt32 % 65536).toInt32)))) (fun _ => rfl) (k _)
set_option maxRecDepth 100000 in
set_option maxHeartbeats 4000000 in
theorem yl_13 {X : Nat × (Nat → Int32)} {d : Nat} {f g : Nat → Int32} {w a : Int32} {Q : Option Value → List va_E → Prop} (k : ∀ g', rt_ X d 128 3 [some (.ref 23), some (.int a), some (.int (8))] [] (hp_f w f 14 g') Q) : rt_ X d 128 3 [some (.ref 23), some (.int a), some (.int 16)] [] (hp_f w f 13 g) Q :=
  rt_k (k := 21) (pc' := 3) (L' := [some (.ref 23), some (.int a), some (.int (8))]) (st' := []) (h' := hp_f w f 14 (upd g 13 (vp_nar .char (((a >>> ((16 : Int32) &&& 31) &&& 255).toUInt32 % 65536).toInt32)))) (fun _ => rfl) (k _)
set_option maxRecDepth 100000 in
set_option maxHeartbeats 4000000 in
theorem yl_14 {X : Nat × (Nat → Int32)} {d : Nat} {f g : Nat → Int32} {w a : Int32} {Q : Option Value → List va_E → Prop} (k : ∀ g', rt_ X d 128 3 [some (.ref 23), some (.int a), some (.int (0))] [] (hp_f w f 15 g') Q) : rt_ X d 128 3 [some (.ref 23), some (.int a), some (.int 8)] [] (hp_f w f 14 g) Q :=
  rt_k (k := 21) (pc' := 3) (L' := [some (.ref 23), some (.int a), some (.int (0))]) (st' := []) (h' := hp_f w f 15 (upd g 14 (vp_nar .char (((a >>> ((8 : Int32) &&& 31) &&& 255).toUInt32 % 65536).toInt32)))) (fun _ => rfl) (k _)
set_option maxRecDepth 100000 in
set_option maxHeartbeats 4000000 in
theorem yl_15 {X : Nat × (Nat → Int32)} {d : Nat} {f g : Nat → Int32} {w a : Int32} {Q : Option Value → List va_E → Prop} (k : ∀ g', rt_ X d 128 3 [some (.ref 23), some (.int a), some (.int (-8))] [] (hp_f w f 16 g') Q) : rt_ X d 128 3 [some (.ref 23), some (.int a), some (.int 0)] [] (hp_f w f 15 g) Q :=
  rt_k (k := 21) (pc' := 3) (L' := [some (.ref 23), some (.int a), some (.int (-8))]) (st' := []) (h' := hp_f w f 16 (upd g 15 (vp_nar .char (((a >>> ((0 : Int32) &&& 31) &&& 255).toUInt32 % 65536).toInt32)))) (fun _ => rfl) (k _)
set_option maxRecDepth 100000 in
set_option maxHeartbeats 4000000 in
theorem yl_16 {X : Nat × (Nat → Int32)} {d : Nat} {f g : Nat → Int32} {w a : Int32} {Q : Option Value → List va_E → Prop} (k : ∀ g', rt_ X d 128 3 [some (.ref 23), some (.int a), some (.int (16))] [] (hp_f w f 17 g') Q) : rt_ X d 128 3 [some (.ref 23), some (.int a), some (.int 24)] [] (hp_f w f 16 g) Q :=
  rt_k (k := 21) (pc' := 3) (L' := [some (.ref 23), some (.int a), some (.int (16))]) (st' := []) (h' := hp_f w f 17 (upd g 16 (vp_nar .char (((a >>> ((24 : Int32) &&& 31) &&& 255).toUInt32 % 65536).toInt32)))) (fun _ => rfl) (k _)
set_option maxRecDepth 100000 in
set_option maxHeartbeats 4000000 in
theorem yl_17 {X : Nat × (Nat → Int32)} {d : Nat} {f g : Nat → Int32} {w a : Int32} {Q : Option Value → List va_E → Prop} (k : ∀ g', rt_ X d 128 3 [some (.ref 23), some (.int a), some (.int (8))] [] (hp_f w f 18 g') Q) : rt_ X d 128 3 [some (.ref 23), some (.int a), some (.int 16)] [] (hp_f w f 17 g) Q :=
  rt_k (k := 21) (pc' := 3) (L' := [some (.ref 23), some (.int a), some (.int (8))]) (st' := []) (h' := hp_f w f 18 (upd g 17 (vp_nar .char (((a >>> ((16 : Int32) &&& 31) &&& 255).toUInt32 % 65536).toInt32)))) (fun _ => rfl) (k _)
set_option maxRecDepth 100000 in
set_option maxHeartbeats 4000000 in
theorem yl_18 {X : Nat × (Nat → Int32)} {d : Nat} {f g : Nat → Int32} {w a : Int32} {Q : Option Value → List va_E → Prop} (k : ∀ g', rt_ X d 128 3 [some (.ref 23), some (.int a), some (.int (0))] [] (hp_f w f 19 g') Q) : rt_ X d 128 3 [some (.ref 23), some (.int a), some (.int 8)] [] (hp_f w f 18 g) Q :=
  rt_k (k := 21) (pc' := 3) (L' := [some (.ref 23), some (.int a), some (.int (0))]) (st' := []) (h' := hp_f w f 19 (upd g 18 (vp_nar .char (((a >>> ((8 : Int32) &&& 31) &&& 255).toUInt32 % 65536).toInt32)))) (fun _ => rfl) (k _)
set_option maxRecDepth 100000 in
set_option maxHeartbeats 4000000 in
theorem yl_19 {X : Nat × (Nat → Int32)} {d : Nat} {f g : Nat → Int32} {w a : Int32} {Q : Option Value → List va_E → Prop} (k : ∀ g', rt_ X d 128 3 [some (.ref 23), some (.int a), some (.int (-8))] [] (hp_f w f 20 g') Q) : rt_ X d 128 3 [some (.ref 23), some (.int a), some (.int 0)] [] (hp_f w f 19 g) Q :=
  rt_k (k := 21) (pc' := 3) (L' := [some (.ref 23), some (.int a), some (.int (-8))]) (st' := []) (h' := hp_f w f 20 (upd g 19 (vp_nar .char (((a >>> ((0 : Int32) &&& 31) &&& 255).toUInt32 % 65536).toInt32)))) (fun _ => rfl) (k _)
set_option maxRecDepth 100000 in
set_option maxHeartbeats 4000000 in
theorem xt_0 (X : Nat × (Nat → Int32)) (f g : Nat → Int32) (m a : Int32) : rt_ X 998 15 0 [some (.ref 1), some (.int a), none] [] (hp_f 0 f m g) (fun v h' => v = none ∧ ∃ f', h' = hp_f 4 f' m g) := by
  refine rt_k (k := 2) (pc' := 3) (L' := [some (.ref 1), some (.int a), some (.int 24)]) (st' := []) (h' := hp_f 0 f m g) (fun _ => rfl) ?_
  refine xl_0 (fun f1 => xl_1 (fun f2 => xl_2 (fun f3 => xl_3 (fun f4 => ?_))))
  refine rt_k (k := 2) (pc' := 50) (L' := [some (.ref 1), some (.int a), some (.int (-8))]) (st' := []) (h' := hp_f 4 f4 m g) (fun _ => rfl) ?_
  exact rt_r (v := none) rfl rfl ⟨rfl, f4, rfl⟩
set_option maxRecDepth 100000 in
set_option maxHeartbeats 4000000 in
theorem yt_0 (X : Nat × (Nat → Int32)) (f g : Nat → Int32) (w a : Int32) : rt_ X 998 128 0 [some (.ref 23), some (.int a), none] [] (hp_f w f 0 g) (fun v h' => v = none ∧ ∃ g', h' = hp_f w f 4 g') := by
  refine rt_k (k := 2) (pc' := 3) (L' := [some (.ref 23), some (.int a), some (.int 24)]) (st' := []) (h' := hp_f w f 0 g) (fun _ => rfl) ?_
  refine yl_0 (fun f1 => yl_1 (fun f2 => yl_2 (fun f3 => yl_3 (fun f4 => ?_))))
  refine rt_k (k := 2) (pc' := 40) (L' := [some (.ref 23), some (.int a), some (.int (-8))]) (st' := []) (h' := hp_f w f 4 f4) (fun _ => rfl) ?_
  exact rt_r (v := none) rfl rfl ⟨rfl, f4, rfl⟩
set_option maxRecDepth 100000 in
set_option maxHeartbeats 4000000 in
theorem xt_4 (X : Nat × (Nat → Int32)) (f g : Nat → Int32) (m a : Int32) : rt_ X 998 15 0 [some (.ref 1), some (.int a), none] [] (hp_f 4 f m g) (fun v h' => v = none ∧ ∃ f', h' = hp_f 8 f' m g) := by
  refine rt_k (k := 2) (pc' := 3) (L' := [some (.ref 1), some (.int a), some (.int 24)]) (st' := []) (h' := hp_f 4 f m g) (fun _ => rfl) ?_
  refine xl_4 (fun f1 => xl_5 (fun f2 => xl_6 (fun f3 => xl_7 (fun f4 => ?_))))
  refine rt_k (k := 2) (pc' := 50) (L' := [some (.ref 1), some (.int a), some (.int (-8))]) (st' := []) (h' := hp_f 8 f4 m g) (fun _ => rfl) ?_
  exact rt_r (v := none) rfl rfl ⟨rfl, f4, rfl⟩
set_option maxRecDepth 100000 in
set_option maxHeartbeats 4000000 in
theorem yt_4 (X : Nat × (Nat → Int32)) (f g : Nat → Int32) (w a : Int32) : rt_ X 998 128 0 [some (.ref 23), some (.int a), none] [] (hp_f w f 4 g) (fun v h' => v = none ∧ ∃ g', h' = hp_f w f 8 g') := by
  refine rt_k (k := 2) (pc' := 3) (L' := [some (.ref 23), some (.int a), some (.int 24)]) (st' := []) (h' := hp_f w f 4 g) (fun _ => rfl) ?_
  refine yl_4 (fun f1 => yl_5 (fun f2 => yl_6 (fun f3 => yl_7 (fun f4 => ?_))))
  refine rt_k (k := 2) (pc' := 40) (L' := [some (.ref 23), some (.int a), some (.int (-8))]) (st' := []) (h' := hp_f w f 8 f4) (fun _ => rfl) ?_
  exact rt_r (v := none) rfl rfl ⟨rfl, f4, rfl⟩
set_option maxRecDepth 100000 in
set_option maxHeartbeats 4000000 in
theorem xt_8 (X : Nat × (Nat → Int32)) (f g : Nat → Int32) (m a : Int32) : rt_ X 998 15 0 [some (.ref 1), some (.int a), none] [] (hp_f 8 f m g) (fun v h' => v = none ∧ ∃ f', h' = hp_f 12 f' m g) := by
  refine rt_k (k := 2) (pc' := 3) (L' := [some (.ref 1), some (.int a), some (.int 24)]) (st' := []) (h' := hp_f 8 f m g) (fun _ => rfl) ?_
  refine xl_8 (fun f1 => xl_9 (fun f2 => xl_10 (fun f3 => xl_11 (fun f4 => ?_))))
  refine rt_k (k := 2) (pc' := 50) (L' := [some (.ref 1), some (.int a), some (.int (-8))]) (st' := []) (h' := hp_f 12 f4 m g) (fun _ => rfl) ?_
  exact rt_r (v := none) rfl rfl ⟨rfl, f4, rfl⟩
set_option maxRecDepth 100000 in
set_option maxHeartbeats 4000000 in
theorem yt_8 (X : Nat × (Nat → Int32)) (f g : Nat → Int32) (w a : Int32) : rt_ X 998 128 0 [some (.ref 23), some (.int a), none] [] (hp_f w f 8 g) (fun v h' => v = none ∧ ∃ g', h' = hp_f w f 12 g') := by
  refine rt_k (k := 2) (pc' := 3) (L' := [some (.ref 23), some (.int a), some (.int 24)]) (st' := []) (h' := hp_f w f 8 g) (fun _ => rfl) ?_
  refine yl_8 (fun f1 => yl_9 (fun f2 => yl_10 (fun f3 => yl_11 (fun f4 => ?_))))
  refine rt_k (k := 2) (pc' := 40) (L' := [some (.ref 23), some (.int a), some (.int (-8))]) (st' := []) (h' := hp_f w f 12 f4) (fun _ => rfl) ?_
  exact rt_r (v := none) rfl rfl ⟨rfl, f4, rfl⟩
set_option maxRecDepth 100000 in
set_option maxHeartbeats 4000000 in
theorem xt_12 (X : Nat × (Nat → Int32)) (f g : Nat → Int32) (m a : Int32) : rt_ X 998 15 0 [some (.ref 1), some (.int a), none] [] (hp_f 12 f m g) (fun v h' => v = none ∧ ∃ f', h' = hp_f 16 f' m g) := by
  refine rt_k (k := 2) (pc' := 3) (L' := [some (.ref 1), some (.int a), some (.int 24)]) (st' := []) (h' := hp_f 12 f m g) (fun _ => rfl) ?_
  refine xl_12 (fun f1 => xl_13 (fun f2 => xl_14 (fun f3 => xl_15 (fun f4 => ?_))))
  refine rt_k (k := 2) (pc' := 50) (L' := [some (.ref 1), some (.int a), some (.int (-8))]) (st' := []) (h' := hp_f 16 f4 m g) (fun _ => rfl) ?_
  exact rt_r (v := none) rfl rfl ⟨rfl, f4, rfl⟩
set_option maxRecDepth 100000 in
set_option maxHeartbeats 4000000 in
theorem yt_12 (X : Nat × (Nat → Int32)) (f g : Nat → Int32) (w a : Int32) : rt_ X 998 128 0 [some (.ref 23), some (.int a), none] [] (hp_f w f 12 g) (fun v h' => v = none ∧ ∃ g', h' = hp_f w f 16 g') := by
  refine rt_k (k := 2) (pc' := 3) (L' := [some (.ref 23), some (.int a), some (.int 24)]) (st' := []) (h' := hp_f w f 12 g) (fun _ => rfl) ?_
  refine yl_12 (fun f1 => yl_13 (fun f2 => yl_14 (fun f3 => yl_15 (fun f4 => ?_))))
  refine rt_k (k := 2) (pc' := 40) (L' := [some (.ref 23), some (.int a), some (.int (-8))]) (st' := []) (h' := hp_f w f 16 f4) (fun _ => rfl) ?_
  exact rt_r (v := none) rfl rfl ⟨rfl, f4, rfl⟩
set_option maxRecDepth 100000 in
set_option maxHeartbeats 4000000 in
theorem xt_16 (X : Nat × (Nat → Int32)) (f g : Nat → Int32) (m a : Int32) : rt_ X 998 15 0 [some (.ref 1), some (.int a), none] [] (hp_f 16 f m g) (fun v h' => v = none ∧ ∃ f', h' = hp_f 20 f' m g) := by
  refine rt_k (k := 2) (pc' := 3) (L' := [some (.ref 1), some (.int a), some (.int 24)]) (st' := []) (h' := hp_f 16 f m g) (fun _ => rfl) ?_
  refine xl_16 (fun f1 => xl_17 (fun f2 => xl_18 (fun f3 => xl_19 (fun f4 => ?_))))
  refine rt_k (k := 2) (pc' := 50) (L' := [some (.ref 1), some (.int a), some (.int (-8))]) (st' := []) (h' := hp_f 20 f4 m g) (fun _ => rfl) ?_
  exact rt_r (v := none) rfl rfl ⟨rfl, f4, rfl⟩
set_option maxRecDepth 100000 in
set_option maxHeartbeats 4000000 in
theorem yt_16 (X : Nat × (Nat → Int32)) (f g : Nat → Int32) (w a : Int32) : rt_ X 998 128 0 [some (.ref 23), some (.int a), none] [] (hp_f w f 16 g) (fun v h' => v = none ∧ ∃ g', h' = hp_f w f 20 g') := by
  refine rt_k (k := 2) (pc' := 3) (L' := [some (.ref 23), some (.int a), some (.int 24)]) (st' := []) (h' := hp_f w f 16 g) (fun _ => rfl) ?_
  refine yl_16 (fun f1 => yl_17 (fun f2 => yl_18 (fun f3 => yl_19 (fun f4 => ?_))))
  refine rt_k (k := 2) (pc' := 40) (L' := [some (.ref 23), some (.int a), some (.int (-8))]) (st' := []) (h' := hp_f w f 20 f4) (fun _ => rfl) ?_
  exact rt_r (v := none) rfl rfl ⟨rfl, f4, rfl⟩
set_option maxRecDepth 100000 in
set_option maxHeartbeats 4000000 in
theorem xf_feed (X : Nat × (Nat → Int32)) (a b c d e : Int32) : rt_ X 999 13 0 [some (.ref 0), some (.int a), some (.int b), some (.int c), some (.int d), some (.int e)] [] hp_0 (fun v h' => v = some (.int 20) ∧ ∃ f', h' = hp_f 20 f' 0 (fun _ => 0)) := by
  refine rt_k (k := 3) (pc' := 6) (L' := [some (.ref 0), some (.int a), some (.int b), some (.int c), some (.int d), some (.int e)]) (st' := [.int 20, .ref 1]) (h' := hp_f 0 (fun _ => 0) 0 (fun _ => 0)) (fun _ => rfl) ?_
  refine rt_e (n1 := 50) (M' := 14) (as := [.ref 1, .int 20]) (rest := []) (v := some (.int 1)) (h' := hp_f 0 (fun _ => 0) 0 (fun _ => 0)) rfl rfl rfl ?_
  refine rt_k (k := 4) (pc' := 20) (L' := [some (.ref 0), some (.int a), some (.int b), some (.int c), some (.int d), some (.int e)]) (st' := [.int a, .ref 1]) (h' := hp_f 0 (fun _ => 0) 0 (fun _ => 0)) (fun _ => rfl) ?_
  refine rt_c (M' := 15) (as := [.ref 1, .int a]) (rest := []) rfl rfl (xt_0 X (fun _ => 0) (fun _ => 0) 0 a) ?_
  rintro v1 h1 ⟨rfl, f0, rfl⟩
  refine rt_k (k := 3) (pc' := 28) (L' := [some (.ref 0), some (.int a), some (.int b), some (.int c), some (.int d), some (.int e)]) (st' := [.int b, .ref 1]) (h' := hp_f 4 f0 0 (fun _ => 0)) (fun _ => rfl) ?_
  refine rt_c (M' := 15) (as := [.ref 1, .int b]) (rest := []) rfl rfl (xt_4 X f0 (fun _ => 0) 0 b) ?_
  rintro v1 h1 ⟨rfl, f1, rfl⟩
  refine rt_k (k := 3) (pc' := 36) (L' := [some (.ref 0), some (.int a), some (.int b), some (.int c), some (.int d), some (.int e)]) (st' := [.int c, .ref 1]) (h' := hp_f 8 f1 0 (fun _ => 0)) (fun _ => rfl) ?_
  refine rt_c (M' := 15) (as := [.ref 1, .int c]) (rest := []) rfl rfl (xt_8 X f1 (fun _ => 0) 0 c) ?_
  rintro v1 h1 ⟨rfl, f2, rfl⟩
  refine rt_k (k := 3) (pc' := 45) (L' := [some (.ref 0), some (.int a), some (.int b), some (.int c), some (.int d), some (.int e)]) (st' := [.int d, .ref 1]) (h' := hp_f 12 f2 0 (fun _ => 0)) (fun _ => rfl) ?_
  refine rt_c (M' := 15) (as := [.ref 1, .int d]) (rest := []) rfl rfl (xt_12 X f2 (fun _ => 0) 0 d) ?_
  rintro v1 h1 ⟨rfl, f3, rfl⟩
  refine rt_k (k := 3) (pc' := 54) (L' := [some (.ref 0), some (.int a), some (.int b), some (.int c), some (.int d), some (.int e)]) (st' := [.int e, .ref 1]) (h' := hp_f 16 f3 0 (fun _ => 0)) (fun _ => rfl) ?_
  refine rt_c (M' := 15) (as := [.ref 1, .int e]) (rest := []) rfl rfl (xt_16 X f3 (fun _ => 0) 0 e) ?_
  rintro v1 h1 ⟨rfl, f4, rfl⟩
  refine rt_k (k := 2) (pc' := 61) (L' := [some (.ref 0), some (.int a), some (.int b), some (.int c), some (.int d), some (.int e)]) (st' := [.ref 1]) (h' := hp_f 20 f4 0 (fun _ => 0)) (fun _ => rfl) ?_
  refine rt_e (n1 := 50) (M' := 16) (as := [.ref 1]) (rest := []) (v := some (.int 20)) (h' := hp_f 20 f4 0 (fun _ => 0)) rfl rfl rfl ?_
  exact rt_r (v := some (.int 20)) rfl rfl ⟨rfl, f4, rfl⟩
set_option maxRecDepth 100000 in
set_option maxHeartbeats 4000000 in
theorem yf_feed (X : Nat × (Nat → Int32)) (f : Nat → Int32) (a b c d e : Int32) : rt_ X 999 127 0 [some (.ref 23), some (.int a), some (.int b), some (.int c), some (.int d), some (.int e)] [] (hp_f 20 f 0 (fun _ => 0)) (fun v h' => v = some (.int 20) ∧ ∃ g', h' = hp_f 20 f 20 g') := by
  refine rt_k (k := 8) (pc' := 18) (L' := [some (.ref 23), some (.int a), some (.int b), some (.int c), some (.int d), some (.int e)]) (st' := [.int a, .ref 23]) (h' := hp_f 20 f 0 (fun _ => 0)) (fun _ => rfl) ?_
  refine rt_c (M' := 128) (as := [.ref 23, .int a]) (rest := []) rfl rfl (yt_0 X f (fun _ => 0) 20 a) ?_
  rintro v1 h1 ⟨rfl, g0, rfl⟩
  refine rt_k (k := 2) (pc' := 23) (L' := [some (.ref 23), some (.int a), some (.int b), some (.int c), some (.int d), some (.int e)]) (st' := [.int b, .ref 23]) (h' := hp_f 20 f 4 g0) (fun _ => rfl) ?_
  refine rt_c (M' := 128) (as := [.ref 23, .int b]) (rest := []) rfl rfl (yt_4 X f g0 20 b) ?_
  rintro v1 h1 ⟨rfl, g1, rfl⟩
  refine rt_k (k := 2) (pc' := 28) (L' := [some (.ref 23), some (.int a), some (.int b), some (.int c), some (.int d), some (.int e)]) (st' := [.int c, .ref 23]) (h' := hp_f 20 f 8 g1) (fun _ => rfl) ?_
  refine rt_c (M' := 128) (as := [.ref 23, .int c]) (rest := []) rfl rfl (yt_8 X f g1 20 c) ?_
  rintro v1 h1 ⟨rfl, g2, rfl⟩
  refine rt_k (k := 2) (pc' := 34) (L' := [some (.ref 23), some (.int a), some (.int b), some (.int c), some (.int d), some (.int e)]) (st' := [.int d, .ref 23]) (h' := hp_f 20 f 12 g2) (fun _ => rfl) ?_
  refine rt_c (M' := 128) (as := [.ref 23, .int d]) (rest := []) rfl rfl (yt_12 X f g2 20 d) ?_
  rintro v1 h1 ⟨rfl, g3, rfl⟩
  refine rt_k (k := 2) (pc' := 40) (L' := [some (.ref 23), some (.int a), some (.int b), some (.int c), some (.int d), some (.int e)]) (st' := [.int e, .ref 23]) (h' := hp_f 20 f 16 g3) (fun _ => rfl) ?_
  refine rt_c (M' := 128) (as := [.ref 23, .int e]) (rest := []) rfl rfl (yt_16 X f g3 20 e) ?_
  rintro v1 h1 ⟨rfl, g4, rfl⟩
  refine rt_k (k := 2) (pc' := 47) (L' := [some (.ref 23), some (.int a), some (.int b), some (.int c), some (.int d), some (.int e)]) (st' := [.int 20]) (h' := hp_f 20 f 20 g4) (fun _ => rfl) ?_
  exact rt_r (v := some (.int 20)) rfl rfl ⟨rfl, g4, rfl⟩
set_option maxRecDepth 100000 in
set_option maxHeartbeats 4000000 in
theorem lc_0 (xs : Nat → Int32) : rt_ (6, xs) 1000 182 108 [some (.retAddr 1000), some (.ref 0), some (.ref 23), some (.int 0)] [] hp_0 lp_Q := by
  refine rt_k (k := 26) (pc' := 134) (L' := [some (.retAddr 1000), some (.ref 0), some (.ref 23), some (.int 0)]) (st' := [.int (xs 5), .int (xs 4), .int (xs 3), .int (xs 2), .int (xs 1), .ref 0]) (h' := hp_0) (fun _ => rfl) ?_
  refine rt_c (M' := 13) (as := [.ref 0, .int (xs 1), .int (xs 2), .int (xs 3), .int (xs 4), .int (xs 5)]) (rest := []) rfl rfl (xf_feed (6, xs) (xs 1) (xs 2) (xs 3) (xs 4) (xs 5)) ?_
  rintro v1 h1 ⟨rfl, f, rfl⟩
  refine rt_k (k := 26) (pc' := 163) (L' := [some (.retAddr 1000), some (.ref 0), some (.ref 23), some (.int 0)]) (st' := [.int (xs 5), .int (xs 4), .int (xs 3), .int (xs 2), .int (xs 1), .ref 23, .int 20]) (h' := hp_f 20 f 0 (fun _ => 0)) (fun _ => rfl) ?_
  refine rt_c (M' := 127) (as := [.ref 23, .int (xs 1), .int (xs 2), .int (xs 3), .int (xs 4), .int (xs 5)]) (rest := [.int 20]) rfl rfl (yf_feed (6, xs) f (xs 1) (xs 2) (xs 3) (xs 4) (xs 5)) ?_
  rintro v1 h1 ⟨rfl, g, rfl⟩
  refine rt_k (k := 1) (pc' := 463) (L' := [some (.retAddr 1000), some (.ref 0), some (.ref 23), some (.int 0)]) (st' := []) (h' := hp_f 20 f 20 g) (fun _ => rfl) ?_
  refine lp_9 ?_
  have e9 : hp_f 20 f 20 g = (((hp_0.set 1 (.inr (1, [.ref 2, .int 20]))).set 2 (.inl (0, 400, .inl f))).set 23 (.inr (12, [.ref 24, .int 20, .ref 25, .int 0, .int 0, .ref 26, .int 0, .int 0, .ref 27, .ref 28, .int 0, .ref 29, .int 1, .int 0, .ref 30, .ref 31, .int 0, .ref 32, .int 0, .ref 33, .ref 34, .int 0, .int 0, .ref 35]))).set 24 (.inl (0, 400, .inl g)) := rfl
  rw [e9]
  exact ok_s (ok_s (ok_s (ok_s lp_h0 rfl rfl) rfl rfl) rfl rfl) rfl rfl
