theorem lt2_t {A0 : Type} {A1 : Type} {B : Type} (a0 : A0) (a1 : A1) (k : A0 → A1 → B) : lt2 (a0, a1) k = k a0 a1 := rfl
theorem lt3_t {A0 : Type} {A1 : Type} {A2 : Type} {B : Type} (a0 : A0) (a1 : A1) (a2 : A2) (k : A0 → A1 → A2 → B) : lt3 (a0, a1, a2) k = k a0 a1 a2 := rfl
theorem lt4_t {A0 : Type} {A1 : Type} {A2 : Type} {A3 : Type} {B : Type} (a0 : A0) (a1 : A1) (a2 : A2) (a3 : A3) (k : A0 → A1 → A2 → A3 → B) : lt4 (a0, a1, a2, a3) k = k a0 a1 a2 a3 := rfl
theorem lt5_t {A0 : Type} {A1 : Type} {A2 : Type} {A3 : Type} {A4 : Type} {B : Type} (a0 : A0) (a1 : A1) (a2 : A2) (a3 : A3) (a4 : A4) (k : A0 → A1 → A2 → A3 → A4 → B) : lt5 (a0, a1, a2, a3, a4) k = k a0 a1 a2 a3 a4 := rfl
theorem lt6_t {A0 : Type} {A1 : Type} {A2 : Type} {A3 : Type} {A4 : Type} {A5 : Type} {B : Type} (a0 : A0) (a1 : A1) (a2 : A2) (a3 : A3) (a4 : A4) (a5 : A5) (k : A0 → A1 → A2 → A3 → A4 → A5 → B) : lt6 (a0, a1, a2, a3, a4, a5) k = k a0 a1 a2 a3 a4 a5 := rfl
theorem lt7_t {A0 : Type} {A1 : Type} {A2 : Type} {A3 : Type} {A4 : Type} {A5 : Type} {A6 : Type} {B : Type} (a0 : A0) (a1 : A1) (a2 : A2) (a3 : A3) (a4 : A4) (a5 : A5) (a6 : A6) (k : A0 → A1 → A2 → A3 → A4 → A5 → A6 → B) : lt7 (a0, a1, a2, a3, a4, a5, a6) k = k a0 a1 a2 a3 a4 a5 a6 := rfl
theorem lt8_t {A0 : Type} {A1 : Type} {A2 : Type} {A3 : Type} {A4 : Type} {A5 : Type} {A6 : Type} {A7 : Type} {B : Type} (a0 : A0) (a1 : A1) (a2 : A2) (a3 : A3) (a4 : A4) (a5 : A5) (a6 : A6) (a7 : A7) (k : A0 → A1 → A2 → A3 → A4 → A5 → A6 → A7 → B) : lt8 (a0, a1, a2, a3, a4, a5, a6, a7) k = k a0 a1 a2 a3 a4 a5 a6 a7 := rfl
theorem lt9_t {A0 : Type} {A1 : Type} {A2 : Type} {A3 : Type} {A4 : Type} {A5 : Type} {A6 : Type} {A7 : Type} {A8 : Type} {B : Type} (a0 : A0) (a1 : A1) (a2 : A2) (a3 : A3) (a4 : A4) (a5 : A5) (a6 : A6) (a7 : A7) (a8 : A8) (k : A0 → A1 → A2 → A3 → A4 → A5 → A6 → A7 → A8 → B) : lt9 (a0, a1, a2, a3, a4, a5, a6, a7, a8) k = k a0 a1 a2 a3 a4 a5 a6 a7 a8 := rfl
theorem lt10_t {A0 : Type} {A1 : Type} {A2 : Type} {A3 : Type} {A4 : Type} {A5 : Type} {A6 : Type} {A7 : Type} {A8 : Type} {A9 : Type} {B : Type} (a0 : A0) (a1 : A1) (a2 : A2) (a3 : A3) (a4 : A4) (a5 : A5) (a6 : A6) (a7 : A7) (a8 : A8) (a9 : A9) (k : A0 → A1 → A2 → A3 → A4 → A5 → A6 → A7 → A8 → A9 → B) : lt10 (a0, a1, a2, a3, a4, a5, a6, a7, a8, a9) k = k a0 a1 a2 a3 a4 a5 a6 a7 a8 a9 := rfl
theorem lt11_t {A0 : Type} {A1 : Type} {A2 : Type} {A3 : Type} {A4 : Type} {A5 : Type} {A6 : Type} {A7 : Type} {A8 : Type} {A9 : Type} {A10 : Type} {B : Type} (a0 : A0) (a1 : A1) (a2 : A2) (a3 : A3) (a4 : A4) (a5 : A5) (a6 : A6) (a7 : A7) (a8 : A8) (a9 : A9) (a10 : A10) (k : A0 → A1 → A2 → A3 → A4 → A5 → A6 → A7 → A8 → A9 → A10 → B) : lt11 (a0, a1, a2, a3, a4, a5, a6, a7, a8, a9, a10) k = k a0 a1 a2 a3 a4 a5 a6 a7 a8 a9 a10 := rfl
theorem lt12_t {A0 : Type} {A1 : Type} {A2 : Type} {A3 : Type} {A4 : Type} {A5 : Type} {A6 : Type} {A7 : Type} {A8 : Type} {A9 : Type} {A10 : Type} {A11 : Type} {B : Type} (a0 : A0) (a1 : A1) (a2 : A2) (a3 : A3) (a4 : A4) (a5 : A5) (a6 : A6) (a7 : A7) (a8 : A8) (a9 : A9) (a10 : A10) (a11 : A11) (k : A0 → A1 → A2 → A3 → A4 → A5 → A6 → A7 → A8 → A9 → A10 → A11 → B) : lt12 (a0, a1, a2, a3, a4, a5, a6, a7, a8, a9, a10, a11) k = k a0 a1 a2 a3 a4 a5 a6 a7 a8 a9 a10 a11 := rfl
theorem lt13_t {A0 : Type} {A1 : Type} {A2 : Type} {A3 : Type} {A4 : Type} {A5 : Type} {A6 : Type} {A7 : Type} {A8 : Type} {A9 : Type} {A10 : Type} {A11 : Type} {A12 : Type} {B : Type} (a0 : A0) (a1 : A1) (a2 : A2) (a3 : A3) (a4 : A4) (a5 : A5) (a6 : A6) (a7 : A7) (a8 : A8) (a9 : A9) (a10 : A10) (a11 : A11) (a12 : A12) (k : A0 → A1 → A2 → A3 → A4 → A5 → A6 → A7 → A8 → A9 → A10 → A11 → A12 → B) : lt13 (a0, a1, a2, a3, a4, a5, a6, a7, a8, a9, a10, a11, a12) k = k a0 a1 a2 a3 a4 a5 a6 a7 a8 a9 a10 a11 a12 := rfl
theorem lt14_t {A0 : Type} {A1 : Type} {A2 : Type} {A3 : Type} {A4 : Type} {A5 : Type} {A6 : Type} {A7 : Type} {A8 : Type} {A9 : Type} {A10 : Type} {A11 : Type} {A12 : Type} {A13 : Type} {B : Type} (a0 : A0) (a1 : A1) (a2 : A2) (a3 : A3) (a4 : A4) (a5 : A5) (a6 : A6) (a7 : A7) (a8 : A8) (a9 : A9) (a10 : A10) (a11 : A11) (a12 : A12) (a13 : A13) (k : A0 → A1 → A2 → A3 → A4 → A5 → A6 → A7 → A8 → A9 → A10 → A11 → A12 → A13 → B) : lt14 (a0, a1, a2, a3, a4, a5, a6, a7, a8, a9, a10, a11, a12, a13) k = k a0 a1 a2 a3 a4 a5 a6 a7 a8 a9 a10 a11 a12 a13 := rfl
theorem lt15_t {A0 : Type} {A1 : Type} {A2 : Type} {A3 : Type} {A4 : Type} {A5 : Type} {A6 : Type} {A7 : Type} {A8 : Type} {A9 : Type} {A10 : Type} {A11 : Type} {A12 : Type} {A13 : Type} {A14 : Type} {B : Type} (a0 : A0) (a1 : A1) (a2 : A2) (a3 : A3) (a4 : A4) (a5 : A5) (a6 : A6) (a7 : A7) (a8 : A8) (a9 : A9) (a10 : A10) (a11 : A11) (a12 : A12) (a13 : A13) (a14 : A14) (k : A0 → A1 → A2 → A3 → A4 → A5 → A6 → A7 → A8 → A9 → A10 → A11 → A12 → A13 → A14 → B) : lt15 (a0, a1, a2, a3, a4, a5, a6, a7, a8, a9, a10, a11, a12, a13, a14) k = k a0 a1 a2 a3 a4 a5 a6 a7 a8 a9 a10 a11 a12 a13 a14 := rfl
theorem lt16_t {A0 : Type} {A1 : Type} {A2 : Type} {A3 : Type} {A4 : Type} {A5 : Type} {A6 : Type} {A7 : Type} {A8 : Type} {A9 : Type} {A10 : Type} {A11 : Type} {A12 : Type} {A13 : Type} {A14 : Type} {A15 : Type} {B : Type} (a0 : A0) (a1 : A1) (a2 : A2) (a3 : A3) (a4 : A4) (a5 : A5) (a6 : A6) (a7 : A7) (a8 : A8) (a9 : A9) (a10 : A10) (a11 : A11) (a12 : A12) (a13 : A13) (a14 : A14) (a15 : A15) (k : A0 → A1 → A2 → A3 → A4 → A5 → A6 → A7 → A8 → A9 → A10 → A11 → A12 → A13 → A14 → A15 → B) : lt16 (a0, a1, a2, a3, a4, a5, a6, a7, a8, a9, a10, a11, a12, a13, a14, a15) k = k a0 a1 a2 a3 a4 a5 a6 a7 a8 a9 a10 a11 a12 a13 a14 a15 := rfl
theorem lt17_t {A0 : Type} {A1 : Type} {A2 : Type} {A3 : Type} {A4 : Type} {A5 : Type} {A6 : Type} {A7 : Type} {A8 : Type} {A9 : Type} {A10 : Type} {A11 : Type} {A12 : Type} {A13 : Type} {A14 : Type} {A15 : Type} {A16 : Type} {B : Type} (a0 : A0) (a1 : A1) (a2 : A2) (a3 : A3) (a4 : A4) (a5 : A5) (a6 : A6) (a7 : A7) (a8 : A8) (a9 : A9) (a10 : A10) (a11 : A11) (a12 : A12) (a13 : A13) (a14 : A14) (a15 : A15) (a16 : A16) (k : A0 → A1 → A2 → A3 → A4 → A5 → A6 → A7 → A8 → A9 → A10 → A11 → A12 → A13 → A14 → A15 → A16 → B) : lt17 (a0, a1, a2, a3, a4, a5, a6, a7, a8, a9, a10, a11, a12, a13, a14, a15, a16) k = k a0 a1 a2 a3 a4 a5 a6 a7 a8 a9 a10 a11 a12 a13 a14 a15 a16 := rfl
theorem lt18_t {A0 : Type} {A1 : Type} {A2 : Type} {A3 : Type} {A4 : Type} {A5 : Type} {A6 : Type} {A7 : Type} {A8 : Type} {A9 : Type} {A10 : Type} {A11 : Type} {A12 : Type} {A13 : Type} {A14 : Type} {A15 : Type} {A16 : Type} {A17 : Type} {B : Type} (a0 : A0) (a1 : A1) (a2 : A2) (a3 : A3) (a4 : A4) (a5 : A5) (a6 : A6) (a7 : A7) (a8 : A8) (a9 : A9) (a10 : A10) (a11 : A11) (a12 : A12) (a13 : A13) (a14 : A14) (a15 : A15) (a16 : A16) (a17 : A17) (k : A0 → A1 → A2 → A3 → A4 → A5 → A6 → A7 → A8 → A9 → A10 → A11 → A12 → A13 → A14 → A15 → A16 → A17 → B) : lt18 (a0, a1, a2, a3, a4, a5, a6, a7, a8, a9, a10, a11, a12, a13, a14, a15, a16, a17) k = k a0 a1 a2 a3 a4 a5 a6 a7 a8 a9 a10 a11 a12 a13 a14 a15 a16 a17 := rfl
theorem lt19_t {A0 : Type} {A1 : Type} {A2 : Type} {A3 : Type} {A4 : Type} {A5 : Type} {A6 : Type} {A7 : Type} {A8 : Type} {A9 : Type} {A10 : Type} {A11 : Type} {A12 : Type} {A13 : Type} {A14 : Type} {A15 : Type} {A16 : Type} {A17 : Type} {A18 : Type} {B : Type} (a0 : A0) (a1 : A1) (a2 : A2) (a3 : A3) (a4 : A4) (a5 : A5) (a6 : A6) (a7 : A7) (a8 : A8) (a9 : A9) (a10 : A10) (a11 : A11) (a12 : A12) (a13 : A13) (a14 : A14) (a15 : A15) (a16 : A16) (a17 : A17) (a18 : A18) (k : A0 → A1 → A2 → A3 → A4 → A5 → A6 → A7 → A8 → A9 → A10 → A11 → A12 → A13 → A14 → A15 → A16 → A17 → A18 → B) : lt19 (a0, a1, a2, a3, a4, a5, a6, a7, a8, a9, a10, a11, a12, a13, a14, a15, a16, a17, a18) k = k a0 a1 a2 a3 a4 a5 a6 a7 a8 a9 a10 a11 a12 a13 a14 a15 a16 a17 a18 := rfl
theorem lt20_t {A0 : Type} {A1 : Type} {A2 : Type} {A3 : Type} {A4 : Type} {A5 : Type} {A6 : Type} {A7 : Type} {A8 : Type} {A9 : Type} {A10 : Type} {A11 : Type} {A12 : Type} {A13 : Type} {A14 : Type} {A15 : Type} {A16 : Type} {A17 : Type} {A18 : Type} {A19 : Type} {B : Type} (a0 : A0) (a1 : A1) (a2 : A2) (a3 : A3) (a4 : A4) (a5 : A5) (a6 : A6) (a7 : A7) (a8 : A8) (a9 : A9) (a10 : A10) (a11 : A11) (a12 : A12) (a13 : A13) (a14 : A14) (a15 : A15) (a16 : A16) (a17 : A17) (a18 : A18) (a19 : A19) (k : A0 → A1 → A2 → A3 → A4 → A5 → A6 → A7 → A8 → A9 → A10 → A11 → A12 → A13 → A14 → A15 → A16 → A17 → A18 → A19 → B) : lt20 (a0, a1, a2, a3, a4, a5, a6, a7, a8, a9, a10, a11, a12, a13, a14, a15, a16, a17, a18, a19) k = k a0 a1 a2 a3 a4 a5 a6 a7 a8 a9 a10 a11 a12 a13 a14 a15 a16 a17 a18 a19 := rfl
theorem lt21_t {A0 : Type} {A1 : Type} {A2 : Type} {A3 : Type} {A4 : Type} {A5 : Type} {A6 : Type} {A7 : Type} {A8 : Type} {A9 : Type} {A10 : Type} {A11 : Type} {A12 : Type} {A13 : Type} {A14 : Type} {A15 : Type} {A16 : Type} {A17 : Type} {A18 : Type} {A19 : Type} {A20 : Type} {B : Type} (a0 : A0) (a1 : A1) (a2 : A2) (a3 : A3) (a4 : A4) (a5 : A5) (a6 : A6) (a7 : A7) (a8 : A8) (a9 : A9) (a10 : A10) (a11 : A11) (a12 : A12) (a13 : A13) (a14 : A14) (a15 : A15) (a16 : A16) (a17 : A17) (a18 : A18) (a19 : A19) (a20 : A20) (k : A0 → A1 → A2 → A3 → A4 → A5 → A6 → A7 → A8 → A9 → A10 → A11 → A12 → A13 → A14 → A15 → A16 → A17 → A18 → A19 → A20 → B) : lt21 (a0, a1, a2, a3, a4, a5, a6, a7, a8, a9, a10, a11, a12, a13, a14, a15, a16, a17, a18, a19, a20) k = k a0 a1 a2 a3 a4 a5 a6 a7 a8 a9 a10 a11 a12 a13 a14 a15 a16 a17 a18 a19 a20 := rfl
theorem lt22_t {A0 : Type} {A1 : Type} {A2 : Type} {A3 : Type} {A4 : Type} {A5 : Type} {A6 : Type} {A7 : Type} {A8 : Type} {A9 : Type} {A10 : Type} {A11 : Type} {A12 : Type} {A13 : Type} {A14 : Type} {A15 : Type} {A16 : Type} {A17 : Type} {A18 : Type} {A19 : Type} {A20 : Type} {A21 : Type} {B : Type} (a0 : A0) (a1 : A1) (a2 : A2) (a3 : A3) (a4 : A4) (a5 : A5) (a6 : A6) (a7 : A7) (a8 : A8) (a9 : A9) (a10 : A10) (a11 : A11) (a12 : A12) (a13 : A13) (a14 : A14) (a15 : A15) (a16 : A16) (a17 : A17) (a18 : A18) (a19 : A19) (a20 : A20) (a21 : A21) (k : A0 → A1 → A2 → A3 → A4 → A5 → A6 → A7 → A8 → A9 → A10 → A11 → A12 → A13 → A14 → A15 → A16 → A17 → A18 → A19 → A20 → A21 → B) : lt22 (a0, a1, a2, a3, a4, a5, a6, a7, a8, a9, a10, a11, a12, a13, a14, a15, a16, a17, a18, a19, a20, a21) k = k a0 a1 a2 a3 a4 a5 a6 a7 a8 a9 a10 a11 a12 a13 a14 a15 a16 a17 a18 a19 a20 a21 := rfl
theorem lt23_t {A0 : Type} {A1 : Type} {A2 : Type} {A3 : Type} {A4 : Type} {A5 : Type} {A6 : Type} {A7 : Type} {A8 : Type} {A9 : Type} {A10 : Type} {A11 : Type} {A12 : Type} {A13 : Type} {A14 : Type} {A15 : Type} {A16 : Type} {A17 : Type} {A18 : Type} {A19 : Type} {A20 : Type} {A21 : Type} {A22 : Type} {B : Type} (a0 : A0) (a1 : A1) (a2 : A2) (a3 : A3) (a4 : A4) (a5 : A5) (a6 : A6) (a7 : A7) (a8 : A8) (a9 : A9) (a10 : A10) (a11 : A11) (a12 : A12) (a13 : A13) (a14 : A14) (a15 : A15) (a16 : A16) (a17 : A17) (a18 : A18) (a19 : A19) (a20 : A20) (a21 : A21) (a22 : A22) (k : A0 → A1 → A2 → A3 → A4 → A5 → A6 → A7 → A8 → A9 → A10 → A11 → A12 → A13 → A14 → A15 → A16 → A17 → A18 → A19 → A20 → A21 → A22 → B) : lt23 (a0, a1, a2, a3, a4, a5, a6, a7, a8, a9, a10, a11, a12, a13, a14, a15, a16, a17, a18, a19, a20, a21, a22) k = k a0 a1 a2 a3 a4 a5 a6 a7 a8 a9 a10 a11 a12 a13 a14 a15 a16 a17 a18 a19 a20 a21 a22 := rfl
theorem lt24_t {A0 : Type} {A1 : Type} {A2 : Type} {A3 : Type} {A4 : Type} {A5 : Type} {A6 : Type} {A7 : Type} {A8 : Type} {A9 : Type} {A10 : Type} {A11 : Type} {A12 : Type} {A13 : Type} {A14 : Type} {A15 : Type} {A16 : Type} {A17 : Type} {A18 : Type} {A19 : Type} {A20 : Type} {A21 : Type} {A22 : Type} {A23 : Type} {B : Type} (a0 : A0) (a1 : A1) (a2 : A2) (a3 : A3) (a4 : A4) (a5 : A5) (a6 : A6) (a7 : A7) (a8 : A8) (a9 : A9) (a10 : A10) (a11 : A11) (a12 : A12) (a13 : A13) (a14 : A14) (a15 : A15) (a16 : A16) (a17 : A17) (a18 : A18) (a19 : A19) (a20 : A20) (a21 : A21) (a22 : A22) (a23 : A23) (k : A0 → A1 → A2 → A3 → A4 → A5 → A6 → A7 → A8 → A9 → A10 → A11 → A12 → A13 → A14 → A15 → A16 → A17 → A18 → A19 → A20 → A21 → A22 → A23 → B) : lt24 (a0, a1, a2, a3, a4, a5, a6, a7, a8, a9, a10, a11, a12, a13, a14, a15, a16, a17, a18, a19, a20, a21, a22, a23) k = k a0 a1 a2 a3 a4 a5 a6 a7 a8 a9 a10 a11 a12 a13 a14 a15 a16 a17 a18 a19 a20 a21 a22 a23 := rfl
theorem lt25_t {A0 : Type} {A1 : Type} {A2 : Type} {A3 : Type} {A4 : Type} {A5 : Type} {A6 : Type} {A7 : Type} {A8 : Type} {A9 : Type} {A10 : Type} {A11 : Type} {A12 : Type} {A13 : Type} {A14 : Type} {A15 : Type} {A16 : Type} {A17 : Type} {A18 : Type} {A19 : Type} {A20 : Type} {A21 : Type} {A22 : Type} {A23 : Type} {A24 : Type} {B : Type} (a0 : A0) (a1 : A1) (a2 : A2) (a3 : A3) (a4 : A4) (a5 : A5) (a6 : A6) (a7 : A7) (a8 : A8) (a9 : A9) (a10 : A10) (a11 : A11) (a12 : A12) (a13 : A13) (a14 : A14) (a15 : A15) (a16 : A16) (a17 : A17) (a18 : A18) (a19 : A19) (a20 : A20) (a21 : A21) (a22 : A22) (a23 : A23) (a24 : A24) (k : A0 → A1 → A2 → A3 → A4 → A5 → A6 → A7 → A8 → A9 → A10 → A11 → A12 → A13 → A14 → A15 → A16 → A17 → A18 → A19 → A20 → A21 → A22 → A23 → A24 → B) : lt25 (a0, a1, a2, a3, a4, a5, a6, a7, a8, a9, a10, a11, a12, a13, a14, a15, a16, a17, a18, a19, a20, a21, a22, a23, a24) k = k a0 a1 a2 a3 a4 a5 a6 a7 a8 a9 a10 a11 a12 a13 a14 a15 a16 a17 a18 a19 a20 a21 a22 a23 a24 := rfl
theorem lt26_t {A0 : Type} {A1 : Type} {A2 : Type} {A3 : Type} {A4 : Type} {A5 : Type} {A6 : Type} {A7 : Type} {A8 : Type} {A9 : Type} {A10 : Type} {A11 : Type} {A12 : Type} {A13 : Type} {A14 : Type} {A15 : Type} {A16 : Type} {A17 : Type} {A18 : Type} {A19 : Type} {A20 : Type} {A21 : Type} {A22 : Type} {A23 : Type} {A24 : Type} {A25 : Type} {B : Type} (a0 : A0) (a1 : A1) (a2 : A2) (a3 : A3) (a4 : A4) (a5 : A5) (a6 : A6) (a7 : A7) (a8 : A8) (a9 : A9) (a10 : A10) (a11 : A11) (a12 : A12) (a13 : A13) (a14 : A14) (a15 : A15) (a16 : A16) (a17 : A17) (a18 : A18) (a19 : A19) (a20 : A20) (a21 : A21) (a22 : A22) (a23 : A23) (a24 : A24) (a25 : A25) (k : A0 → A1 → A2 → A3 → A4 → A5 → A6 → A7 → A8 → A9 → A10 → A11 → A12 → A13 → A14 → A15 → A16 → A17 → A18 → A19 → A20 → A21 → A22 → A23 → A24 → A25 → B) : lt26 (a0, a1, a2, a3, a4, a5, a6, a7, a8, a9, a10, a11, a12, a13, a14, a15, a16, a17, a18, a19, a20, a21, a22, a23, a24, a25) k = k a0 a1 a2 a3 a4 a5 a6 a7 a8 a9 a10 a11 a12 a13 a14 a15 a16 a17 a18 a19 a20 a21 a22 a23 a24 a25 := rfl
/-! LINES of a COURT, in both: either both go on, or both stop at the same FAULT -/
theorem lt1_v {A B : Type} (v : A) (k : A → B) : lt1 v k = k v := rfl
theorem oz : ¬ (1 : Int32) = 0 := by decide
theorem zo : ¬ (0 : Int32) = 1 := by decide
theorem updI_s {f : Nat → Int32} {k : Nat} {v : Int32} : upd f k v k = v := by simp [upd]
theorem updI_n {f : Nat → Int32} {k j : Nat} {v : Int32} (h : j ≠ k) : upd f k v j = f j := by simp [upd, h]
theorem nI_ne {a b : Nat} (ha : a ≤ 2000) (hb : b ≤ 2000) (h : a ≠ b) : ¬ nI a = nI b := fun e => by
  have z : (nI a).toInt = (nI b).toInt := congrArg Int32.toInt e
  rw [nI_toInt (by omega), nI_toInt (by omega)] at z
  omega
theorem isWord_v1 (kd : Int32) (wd : Int64) : y_X12_isWord_1 kd wd = if kd = 2 ∧ wd = wv 1 then 1 else 0 := by
  rw [y_X12_isWord_1_s]; simp only [lt1, cmp0]; rw [show wv 1 = 275320840 from by decide +kernel]
  by_cases a : kd = 2 <;> by_cases b : wd = 275320840 <;> simp [a, b]
theorem isWord_v2 (kd : Int32) (wd : Int64) : y_X12_isWord_2 kd wd = if kd = 2 ∧ wd = wv 2 then 1 else 0 := by
  rw [y_X12_isWord_2_s]; simp only [lt1, cmp0]; rw [show wv 2 = 3436200 from by decide +kernel]
  by_cases a : kd = 2 <;> by_cases b : wd = 3436200 <;> simp [a, b]
theorem isWord_v3 (kd : Int32) (wd : Int64) : y_X12_isWord_3 kd wd = if kd = 2 ∧ wd = wv 3 then 1 else 0 := by
  rw [y_X12_isWord_3_s]; simp only [lt1, cmp0]; rw [show wv 3 = 60296 from by decide +kernel]
  by_cases a : kd = 2 <;> by_cases b : wd = 60296 <;> simp [a, b]
theorem isWord_v4 (kd : Int32) (wd : Int64) : y_X12_isWord_4 kd wd = if kd = 2 ∧ wd = wv 4 then 1 else 0 := by
  rw [y_X12_isWord_4_s]; simp only [lt1, cmp0]; rw [show wv 4 = 11052508 from by decide +kernel]
  by_cases a : kd = 2 <;> by_cases b : wd = 11052508 <;> simp [a, b]
theorem isWord_v5 (kd : Int32) (wd : Int64) : y_X12_isWord_5 kd wd = if kd = 2 ∧ wd = wv 5 then 1 else 0 := by
  rw [y_X12_isWord_5_s]; simp only [lt1, cmp0]; rw [show wv 5 = 11318 from by decide +kernel]
  by_cases a : kd = 2 <;> by_cases b : wd = 11318 <;> simp [a, b]
theorem isWord_v6 (kd : Int32) (wd : Int64) : y_X12_isWord_6 kd wd = if kd = 2 ∧ wd = wv 6 then 1 else 0 := by
  rw [y_X12_isWord_6_s]; simp only [lt1, cmp0]; rw [show wv 6 = 82775 from by decide +kernel]
  by_cases a : kd = 2 <;> by_cases b : wd = 82775 <;> simp [a, b]
theorem op_if {n p lm : Nat} (hn : n ≤ 940) (hl : lm ≤ 940) {F G : Nat → Int32} (ha : ∀ j, j < n → F j = G j) {lt : Int64} {bh av kd nm to fr kd' nm' sg : Int32} {wd : Int64} (h : TR n p lt bh av kd nm to fr kd' nm' sg wd) :
    (∃ (p9 : Nat) (l9 : Int64) (b9 a9 k9 m9 t9 f9 q9 n9 s9 : Int32) (w9 : Int64), p < p9 ∧ p9 ≤ n ∧ TR n p9 l9 b9 a9 k9 m9 t9 f9 q9 n9 s9 w9 ∧ y_X12_isWord_1 kd' wd = 1 ∧ y_X6_takeIf (nI n) 0 lt (nI lm) bh av kd nm F 1 = (1, l9, b9, a9, k9, m9) ∧ y_X12_go (nI n) (nI lm) to nm' sg wd G = (t9, f9, q9, n9, s9, w9)) ∨ (y_X12_isWord_1 kd' wd = 0 ∧ y_X6_takeIf (nI n) 0 lt (nI lm) bh av kd nm F 1 = (0, lt, bh, av, kd, nm)) := by
  have e : y_X6_sees lt kd 1 = y_X12_isWord_1 kd' wd := by rw [sees_w h.kr (by decide), isWord_v1]
  by_cases c : kd' = 2 ∧ wd = wv 1
  · have hk : kd = 2 := by
      rcases h.kr with ⟨a, -, -⟩ | ⟨-, b⟩
      · exact a
      · exact absurd c.1 b
    obtain ⟨p1, l1, b1, a1, k1, m1, t1, f1, q1, n1, s1, w1, g1, g2, g3, g4, g5, -, -⟩ := op_go hn hl ha h hk
    have i1 : y_X12_isWord_1 kd' wd = 1 := by rw [isWord_v1, if_pos c]
    refine Or.inl ⟨p1, l1, b1, a1, k1, m1, t1, f1, q1, n1, s1, w1, g1, g2, g3, i1, ?_, g5⟩
    rw [y_X6_takeIf_s]; simp only [lt1, e, i1, if_neg oz, lt5, g4]
  · have i0 : y_X12_isWord_1 kd' wd = 0 := by rw [isWord_v1, if_neg c]
    refine Or.inr ⟨i0, ?_⟩
    rw [y_X6_takeIf_s]; simp only [lt1, e, i0, if_pos]
theorem put1z (a td : Int32) (f : Nat → Int32) : y_X12_put_1 a 0 td f = (0, f) := by rw [y_X12_put_1_s, if_pos rfl]
theorem put1o (a td : Int32) (f : Nat → Int32) : y_X12_put_1 a 1 td f = (1, upd f a.toNatClampNeg td) := by rw [y_X12_put_1_s, if_neg oz]; rfl
theorem put2z (a td : Int32) (f : Nat → Int32) : y_X12_put_2 a 0 td f = (0, f) := by rw [y_X12_put_2_s, if_pos rfl]
theorem put2o (a td : Int32) (f : Nat → Int32) : y_X12_put_2 a 1 td f = (1, upd f a.toNatClampNeg td) := by rw [y_X12_put_2_s, if_neg oz]; rfl
theorem put3z (a td : Int32) (f : Nat → Int32) : y_X12_put_3 a 0 td f = (0, f) := by rw [y_X12_put_3_s, if_pos rfl]
theorem put3o (a td : Int32) (f : Nat → Int32) : y_X12_put_3 a 1 td f = (1, upd f a.toNatClampNeg td) := by rw [y_X12_put_3_s, if_neg oz]; rfl
theorem put4z (a td : Int32) (f : Nat → Int32) : y_X12_put_4 a 0 td f = (0, f) := by rw [y_X12_put_4_s, if_pos rfl]
theorem put4o (a td : Int32) (f : Nat → Int32) : y_X12_put_4 a 1 td f = (1, upd f a.toNatClampNeg td) := by rw [y_X12_put_4_s, if_neg oz]; rfl
theorem first_j {n lm : Nat} {G : Nat → Int32} {to fr kd' nm' sg t1 f1 q1 n1 s1 : Int32} {wd w1 : Int64} (ft pl : Int32) {rd : Nat → Int32} {i : Nat} (hi : i < 10) (r : rd 0 = nI i) (g5 : y_X12_go (nI n) (nI lm) to nm' sg wd G = (t1, f1, q1, n1, s1, w1)) : y_X12_readFirst_j (nI n) (nI lm) to fr kd' nm' sg ft pl wd rd G = (1, t1, f1, q1, n1, s1, ft, pl, w1) := by
  rw [y_X12_readFirst_j_s]; simp only [lt1, show (0 : Int32).toNatClampNeg = 0 from by decide, r, if_neg (show ¬ nI i = (10 : Int32) from nI_ne (b := 10) (by omega) (by omega) (by omega)), lt6, g5]
theorem first_j_bad {n lm : Nat} {G : Nat → Int32} {to fr nm' sg : Int32} {wd : Int64} (ft pl : Int32) {rd : Nat → Int32} (r : rd 0 = nI 10) : y_X12_readFirst_j (nI n) (nI lm) to fr 2 nm' sg ft pl wd rd G = (0, to, fr, 2, nm', sg, 4, fr, wd) := by
  rw [y_X12_readFirst_j_s]; simp only [lt1, show (0 : Int32).toNatClampNeg = 0 from by decide, r, if_pos (show nI 10 = (10 : Int32) from rfl), lt2, bad_v]; rw [if_neg (by decide)]
theorem first_f {n lm : Nat} {G : Nat → Int32} {to fr kd' nm' sg t1 f1 q1 n1 s1 : Int32} {wd w1 : Int64} (ft pl : Int32) {rd : Nat → Int32} {i : Nat} (hi : i < 4) (r : rd 1 = nI i) (g5 : y_X12_go (nI n) (nI lm) to nm' sg wd G = (t1, f1, q1, n1, s1, w1)) : y_X12_readFirst_f (nI n) (nI lm) to fr kd' nm' sg ft pl wd rd G = (1, t1, f1, q1, n1, s1, ft, pl, w1) := by
  rw [y_X12_readFirst_f_s]; simp only [lt1, show (1 : Int32).toNatClampNeg = 1 from by decide, r, if_neg (show ¬ nI i = (4 : Int32) from nI_ne (b := 4) (by omega) (by omega) (by omega)), lt6, g5]
theorem first_f_bad {n lm : Nat} {G : Nat → Int32} {to fr nm' sg : Int32} {wd : Int64} (ft pl : Int32) {rd : Nat → Int32} (r : rd 1 = nI 4) : y_X12_readFirst_f (nI n) (nI lm) to fr 2 nm' sg ft pl wd rd G = (0, to, fr, 2, nm', sg, 4, fr, wd) := by
  rw [y_X12_readFirst_f_s]; simp only [lt1, show (1 : Int32).toNatClampNeg = 1 from by decide, r, if_pos (show nI 4 = (4 : Int32) from rfl), lt2, bad_v]; rw [if_neg (by decide)]
theorem first_c {n lm : Nat} {G : Nat → Int32} {to fr kd' nm' sg t1 f1 q1 n1 s1 : Int32} {wd w1 : Int64} (ft pl : Int32) {rd : Nat → Int32} {i : Nat} (hi : i < 5) (r : rd 2 = nI i) (g5 : y_X12_go (nI n) (nI lm) to nm' sg wd G = (t1, f1, q1, n1, s1, w1)) : y_X12_readFirst_c (nI n) (nI lm) to fr kd' nm' sg ft pl wd rd G = (1, t1, f1, q1, n1, s1, ft, pl, w1) := by
  rw [y_X12_readFirst_c_s]; simp only [lt1, show (2 : Int32).toNatClampNeg = 2 from by decide, r, if_neg (show ¬ nI i = (5 : Int32) from nI_ne (b := 5) (by omega) (by omega) (by omega)), lt6, g5]
theorem first_c_bad {n lm : Nat} {G : Nat → Int32} {to fr nm' sg : Int32} {wd : Int64} (ft pl : Int32) {rd : Nat → Int32} (r : rd 2 = nI 5) : y_X12_readFirst_c (nI n) (nI lm) to fr 2 nm' sg ft pl wd rd G = (0, to, fr, 2, nm', sg, 4, fr, wd) := by
  rw [y_X12_readFirst_c_s]; simp only [lt1, show (2 : Int32).toNatClampNeg = 2 from by decide, r, if_pos (show nI 5 = (5 : Int32) from rfl), lt2, bad_v]; rw [if_neg (by decide)]
theorem floor_line {n p lm : Nat} (hn : n ≤ 940) (hl : lm ≤ 940) {F G : Nat → Int32} (ha : ∀ j, j < n → F j = G j) {lt : Int64} {bh av kd nm to fr kd' nm' sg : Int32} {wd : Int64} (fa ft pl td : Int32) {tu du : Nat → Int32} {j f c : Nat} {N1 N2 N3 M : Nat → Int64} {rd : Nat → Int32} (hN : NM j f c N1 N2 N3 M) (r0 : rd 0 = nI j) (r1 : rd 1 = nI f) (r2 : rd 2 = nI c)  (h : TR n p lt bh av kd nm to fr kd' nm' sg wd) (hk : kd = 2) :
    (∃ (p9 : Nat) (l9 : Int64) (b9 a9 k9 m9 t9 f9 q9 n9 s9 : Int32) (w9 : Int64) (L Wd : Int64) (v1 v2 td' : Int32) (rd' : Nat → Int32) (t8 f8 q8 n8 s8 : Int32) (w8 : Int64), p + 2 ≤ p9 ∧ p9 ≤ n ∧ TR n p9 l9 b9 a9 k9 m9 t9 f9 q9 n9 s9 w9 ∧ f < 4 ∧ wr L Wd ∧ y_X2_readFloor (nI j) (nI f) (nI c) (nI n) 0 fa lt (nI lm) bh av kd nm F N1 N2 N3 tu du = (nI (f + 1), 0, fa, l9, b9, a9, k9, m9, vp_updL N2 f L, upd tu f v1, upd du f v2) ∧ y_X12_readFloor (nI n) (nI lm) to fr kd' nm' sg ft pl wd td rd G M = (1, t8, f8, q8, n8, s8, ft, pl, w8, td', rd', vp_updL M (10 + f) Wd) ∧ y_X12_readEnd (nI n) (nI lm) t8 f8 q8 n8 s8 ft pl w8 G = (1, t9, f9, q9, n9, s9, ft, pl, w9) ∧ rd' 1 = nI (f + 1) ∧ rd' (36 + f) = v1 ∧ rd' (40 + f) = v2 ∧ ∀ k, k ≠ 1 → k ≠ 36 + f → k ≠ 40 + f → rd' k = rd k) ∨ (∃ g P : Int32, ¬ g = 0 ∧ (∃ x0 x1 x2 x3 x4 x5 x6 x7 x8, y_X2_readFloor (nI j) (nI f) (nI c) (nI n) 0 fa lt (nI lm) bh av kd nm F N1 N2 N3 tu du = (x0, g, P, x1, x2, x3, x4, x5, x6, x7, x8)) ∧ ((∃ y0 y1 y2 y3 y4 y5 y6 y7 y8, y_X12_readFloor (nI n) (nI lm) to fr kd' nm' sg ft pl wd td rd G M = (0, y0, y1, y2, y3, y4, g, P, y5, y6, y7, y8)) ∨ (∃ y0 y1 y2 y3 y4 y5 y6 y7 y8 t9 f9 q9 n9 s9 w9, y_X12_readFloor (nI n) (nI lm) to fr kd' nm' sg ft pl wd td rd G M = (1, y0, y1, y2, y3, y4, ft, pl, y5, y6, y7, y8) ∧ y_X12_readEnd (nI n) (nI lm) y0 y1 y2 y3 y4 ft pl y5 G = (0, t9, f9, q9, n9, s9, g, P, w9)))) := by
  have e0 := h.1
  have hj := hN.1
  have hf := hN.2.1
  have hc := hN.2.2.1
  have z0 : (0 : Int32).toNatClampNeg = 0 := by decide
  have z1 : (1 : Int32).toNatClampNeg = 1 := by decide
  have z2 : (2 : Int32).toNatClampNeg = 2 := by decide
  have z35 : (35 : Int32).toNatClampNeg = 35 := by decide
  have zj : (nI j).toNatClampNeg = j := nI_clamp (by omega)
  have zf : (nI f).toNatClampNeg = f := nI_clamp (by omega)
  have zc : (nI c).toNatClampNeg = c := nI_clamp (by omega)
  have hq : kd' = 2 := by
    rcases h.kr with ⟨-, b, -⟩ | ⟨a, -⟩
    · exact b
    · exact absurd hk a
  have o10 : ((10 : Int32) + nI f).toNatClampNeg = 10 + f := by rw [show (10 : Int32) + nI f = nI (10 + f) from nI_add 10 f]; exact nI_clamp (by omega)
  have o36 : ((36 : Int32) + nI f).toNatClampNeg = 36 + f := by rw [show (36 : Int32) + nI f = nI (36 + f) from nI_add 36 f]; exact nI_clamp (by omega)
  have o40 : ((40 : Int32) + nI f).toNatClampNeg = 40 + f := by rw [show (40 : Int32) + nI f = nI (40 + f) from nI_add 40 f]; exact nI_clamp (by omega)
  by_cases c0 : f < 4
  · have c0' : nI f < (4 : Int32) := (lt4_v (by omega)).mpr c0
    obtain ⟨p1, l1, b1, a1, k1, m1, t1, f1, q1, n1, s1, w1, g1, g2, g3, g4, g5, -, -⟩ := op_go hn hl ha h hk
    have ef : y_X12_readFirst_f (nI n) (nI lm) to fr kd' nm' sg ft pl wd rd G = (1, t1, f1, q1, n1, s1, ft, pl, w1) := first_f ft pl c0 r1 g5
    rcases op_new hn hl ha fa ft pl ((10 : Int32) + nI f) hN r0 r1 r2 g3 with ⟨p2, l2, b2, a2, k2, m2, t2, f2, q2, n2, s2, w2, d1, d2, dw, d3, dt, dc, dr⟩ | ⟨g, hg, ec, er⟩
    rotate_left
    · rcases told_01 l1 (nI j) (nI f) (nI c) N1 N2 N3 with e | e
      · rw [e] at ec
        have qc : y_X2_readFloor (nI j) (nI f) (nI c) (nI n) 0 fa lt (nI lm) bh av kd nm F N1 N2 N3 tu du = (nI f, g, f1, 0, b1, a1, 0, m1, N2, tu, du) := by rw [y_X2_readFloor_s, if_pos c0']; simp only [lt1, lt2_t, lt3_t, lt4_t, lt5_t, lt6_t, lt7_t, lt8_t, lt9_t, lt10_t, lt11_t, lt12_t, lt13_t, if_pos, if_neg oz, if_neg zo, isBroken0, fail0, if1, nI_1, g4, e, ec, num1 hg, sign1 hg, isBroken1 hg, new1 hg, found1 hg]
        have qr : y_X12_readFloor (nI n) (nI lm) to fr kd' nm' sg ft pl wd td rd G M = (0, t1, f1, q1, n1, s1, g, f1, w1, td, rd, M) := by rw [y_X12_readFloor_s]; simp only [lt1, lt2_t, lt3_t, lt4_t, lt5_t, lt6_t, lt7_t, lt8_t, lt9_t, lt10_t, lt11_t, lt12_t, lt13_t, if_pos, if_neg oz, if_neg zo, isBroken0, fail0, if1, nI_1, ef, z0, z1, z2, r0, r1, r2, er]
        exact Or.inr ⟨g, _, hg, ⟨_, _, _, _, _, _, _, _, _, qc⟩, Or.inl ⟨_, _, _, _, _, _, _, _, _, qr⟩⟩
      · rw [e] at ec
        have qc : y_X2_readFloor (nI j) (nI f) (nI c) (nI n) 0 fa lt (nI lm) bh av kd nm F N1 N2 N3 tu du = (nI f, g, f1, 0, b1, a1, 0, m1, N2, tu, du) := by rw [y_X2_readFloor_s, if_pos c0']; simp only [lt1, lt2_t, lt3_t, lt4_t, lt5_t, lt6_t, lt7_t, lt8_t, lt9_t, lt10_t, lt11_t, lt12_t, lt13_t, if_pos, if_neg oz, if_neg zo, isBroken0, fail0, if1, nI_1, g4, e, ec, num1 hg, sign1 hg, isBroken1 hg, new1 hg, found1 hg]
        have qr : y_X12_readFloor (nI n) (nI lm) to fr kd' nm' sg ft pl wd td rd G M = (0, t1, f1, q1, n1, s1, g, f1, w1, td, rd, M) := by rw [y_X12_readFloor_s]; simp only [lt1, lt2_t, lt3_t, lt4_t, lt5_t, lt6_t, lt7_t, lt8_t, lt9_t, lt10_t, lt11_t, lt12_t, lt13_t, if_pos, if_neg oz, if_neg zo, isBroken0, fail0, if1, nI_1, ef, z0, z1, z2, r0, r1, r2, er]
        exact Or.inr ⟨g, _, hg, ⟨_, _, _, _, _, _, _, _, _, qc⟩, Or.inl ⟨_, _, _, _, _, _, _, _, _, qr⟩⟩
    · have dr := dr
      rw [o10] at dr
      rcases op_num hn hl ha fa ft pl td 0 20 d3 with ⟨p3, v3, l3, b3, a3, k3, m3, t3, f3, q3, n3, s3, w3, da3, db3, dlo3, dhi3, d3, cc3, rr3⟩ | ⟨g, hg, ec, er⟩
      rotate_left
      · skip
        have qc : y_X2_readFloor (nI j) (nI f) (nI c) (nI n) 0 fa lt (nI lm) bh av kd nm F N1 N2 N3 tu du = (nI f, g, f2, 0, b2, a2, 0, m2, N2, tu, du) := by rw [y_X2_readFloor_s, if_pos c0']; simp only [lt1, lt2_t, lt3_t, lt4_t, lt5_t, lt6_t, lt7_t, lt8_t, lt9_t, lt10_t, lt11_t, lt12_t, lt13_t, if_pos, if_neg oz, if_neg zo, isBroken0, fail0, if1, nI_1, g4, dt, dc, ec, num1 hg, sign1 hg, isBroken1 hg, new1 hg, found1 hg]
        have qr : y_X12_readFloor (nI n) (nI lm) to fr kd' nm' sg ft pl wd td rd G M = (0, t2, f2, q2, n2, s2, g, f2, w2, td, rd, vp_updL M (10 + f) w1) := by rw [y_X12_readFloor_s]; simp only [lt1, lt2_t, lt3_t, lt4_t, lt5_t, lt6_t, lt7_t, lt8_t, lt9_t, lt10_t, lt11_t, lt12_t, lt13_t, if_pos, if_neg oz, if_neg zo, isBroken0, fail0, if1, nI_1, ef, z0, z1, z2, r0, r1, r2, dr, o10, o36, o40, put2z, put2o, er]
        exact Or.inr ⟨g, _, hg, ⟨_, _, _, _, _, _, _, _, _, qc⟩, Or.inl ⟨_, _, _, _, _, _, _, _, _, qr⟩⟩
      · skip
        rcases op_num hn hl ha fa ft pl v3 0 20 d3 with ⟨p4, v4, l4, b4, a4, k4, m4, t4, f4, q4, n4, s4, w4, da4, db4, dlo4, dhi4, d4, cc4, rr4⟩ | ⟨g, hg, ec, er⟩
        rotate_left
        · skip
          have qc : y_X2_readFloor (nI j) (nI f) (nI c) (nI n) 0 fa lt (nI lm) bh av kd nm F N1 N2 N3 tu du = (nI f, g, f3, 0, b3, a3, 0, m3, N2, tu, du) := by rw [y_X2_readFloor_s, if_pos c0']; simp only [lt1, lt2_t, lt3_t, lt4_t, lt5_t, lt6_t, lt7_t, lt8_t, lt9_t, lt10_t, lt11_t, lt12_t, lt13_t, if_pos, if_neg oz, if_neg zo, isBroken0, fail0, if1, nI_1, g4, dt, dc, cc3, ec, num1 hg, sign1 hg, isBroken1 hg, new1 hg, found1 hg]
          have qr : y_X12_readFloor (nI n) (nI lm) to fr kd' nm' sg ft pl wd td rd G M = (0, t3, f3, q3, n3, s3, g, f3, w3, v3, (upd rd (36 + f) v3), vp_updL M (10 + f) w1) := by rw [y_X12_readFloor_s]; simp only [lt1, lt2_t, lt3_t, lt4_t, lt5_t, lt6_t, lt7_t, lt8_t, lt9_t, lt10_t, lt11_t, lt12_t, lt13_t, if_pos, if_neg oz, if_neg zo, isBroken0, fail0, if1, nI_1, ef, z0, z1, z2, r0, r1, r2, dr, o10, o36, o40, put2z, put2o, rr3, er]
          exact Or.inr ⟨g, _, hg, ⟨_, _, _, _, _, _, _, _, _, qc⟩, Or.inl ⟨_, _, _, _, _, _, _, _, _, qr⟩⟩
        · skip
          rcases op_end hn hl ha fa ft pl d4 with ⟨p7, l7, b7, a7, k7, m7, t7, f7, q7, n7, s7, w7, u1, u2, u3, uc, ur⟩ | ⟨g, hg, uc, ur⟩
          · have qc : y_X2_readFloor (nI j) (nI f) (nI c) (nI n) 0 fa lt (nI lm) bh av kd nm F N1 N2 N3 tu du = (nI (f + 1), 0, fa, l7, b7, a7, k7, m7, vp_updL N2 f l1, upd tu f v3, upd du f v4) := by rw [y_X2_readFloor_s, if_pos c0']; simp only [lt1, lt2_t, lt3_t, lt4_t, lt5_t, lt6_t, lt7_t, lt8_t, lt9_t, lt10_t, lt11_t, lt12_t, lt13_t, if_pos, if_neg oz, if_neg zo, isBroken0, fail0, if1, nI_1, g4, dt, dc, cc3, cc4, uc, zf]
            have qr : y_X12_readFloor (nI n) (nI lm) to fr kd' nm' sg ft pl wd td rd G M = (1, t4, f4, q4, n4, s4, ft, pl, w4, v4, (upd (upd (upd rd (36 + f) v3) (40 + f) v4) 1 ((upd (upd rd (36 + f) v3) (40 + f) v4) 1 + 1)), vp_updL M (10 + f) w1) := by rw [y_X12_readFloor_s]; simp only [lt1, lt2_t, lt3_t, lt4_t, lt5_t, lt6_t, lt7_t, lt8_t, lt9_t, lt10_t, lt11_t, lt12_t, lt13_t, if_pos, if_neg oz, if_neg zo, isBroken0, fail0, if1, nI_1, ef, z0, z1, z2, r0, r1, r2, dr, o10, o36, o40, put2z, put2o, rr3, rr4]
            refine Or.inl ⟨p7, l7, b7, a7, k7, m7, t7, f7, q7, n7, s7, w7, l1, w1, v3, v4, _, _, t4, f4, q4, n4, s4, w4, by omega, u2, u3, c0, dw, qc, qr, ur, ?_, ?_, ?_, ?_⟩
            · rw [updI_s, updI_n (show (1 : Nat) ≠ 40 + f by omega), updI_n (show (1 : Nat) ≠ 36 + f by omega), r1, nI_1]
            · rw [updI_n (show (36 + f : Nat) ≠ 1 by omega), updI_n (show (36 + f : Nat) ≠ 40 + f by omega), updI_s]
            · rw [updI_n (show (40 + f : Nat) ≠ 1 by omega), updI_s]
            · intro k h1 h36 h40
              rw [updI_n h1, updI_n h40, updI_n h36]
          · skip
            have qc : y_X2_readFloor (nI j) (nI f) (nI c) (nI n) 0 fa lt (nI lm) bh av kd nm F N1 N2 N3 tu du = (nI f, g, f4, 0, b4, a4, 0, m4, N2, tu, du) := by rw [y_X2_readFloor_s, if_pos c0']; simp only [lt1, lt2_t, lt3_t, lt4_t, lt5_t, lt6_t, lt7_t, lt8_t, lt9_t, lt10_t, lt11_t, lt12_t, lt13_t, if_pos, if_neg oz, if_neg zo, isBroken0, fail0, if1, nI_1, g4, dt, dc, cc3, cc4, uc, isBroken1 hg]
            have qr : y_X12_readFloor (nI n) (nI lm) to fr kd' nm' sg ft pl wd td rd G M = (1, t4, f4, q4, n4, s4, ft, pl, w4, v4, (upd (upd (upd rd (36 + f) v3) (40 + f) v4) 1 ((upd (upd rd (36 + f) v3) (40 + f) v4) 1 + 1)), vp_updL M (10 + f) w1) := by rw [y_X12_readFloor_s]; simp only [lt1, lt2_t, lt3_t, lt4_t, lt5_t, lt6_t, lt7_t, lt8_t, lt9_t, lt10_t, lt11_t, lt12_t, lt13_t, if_pos, if_neg oz, if_neg zo, isBroken0, fail0, if1, nI_1, ef, z0, z1, z2, r0, r1, r2, dr, o10, o36, o40, put2z, put2o, rr3, rr4]
            exact Or.inr ⟨g, _, hg, ⟨_, _, _, _, _, _, _, _, _, qc⟩, Or.inr ⟨_, _, _, _, _, _, _, _, _, _, _, _, _, _, _, qr, ur⟩⟩
  · have c0' : ¬ nI f < (4 : Int32) := fun z => c0 ((lt4_v (by omega)).mp z)
    have c1 : f = 4 := by omega
    have ef : y_X12_readFirst_f (nI n) (nI lm) to fr 2 nm' sg ft pl wd rd G = (0, to, fr, 2, nm', sg, 4, fr, wd) := first_f_bad ft pl (by rw [r1, c1])
    subst hq
    have h4 : ¬ (4 : Int32) = 0 := by decide
    have qc : y_X2_readFloor (nI j) (nI f) (nI c) (nI n) 0 fa lt (nI lm) bh av kd nm F N1 N2 N3 tu du = (nI f, 4, fr, 0, bh, av, 0, nm, N2, tu, du) := by rw [y_X2_readFloor_s, if_neg c0']; simp only [lt1, lt2_t, lt3_t, lt4_t, lt5_t, lt6_t, lt7_t, lt8_t, lt9_t, lt10_t, lt11_t, lt12_t, lt13_t, if_pos, if_neg oz, if_neg zo, isBroken0, fail0, if1, nI_1, isBroken1 h4, ite_self, e0]
    have qr : y_X12_readFloor (nI n) (nI lm) to fr 2 nm' sg ft pl wd td rd G M = (0, to, fr, 2, nm', sg, 4, fr, wd, td, rd, M) := by rw [y_X12_readFloor_s]; simp only [lt1, lt2_t, lt3_t, lt4_t, lt5_t, lt6_t, lt7_t, lt8_t, lt9_t, lt10_t, lt11_t, lt12_t, lt13_t, if_pos, if_neg oz, if_neg zo, isBroken0, fail0, if1, nI_1, ef]
    exact Or.inr ⟨4, _, h4, ⟨_, _, _, _, _, _, _, _, _, qc⟩, Or.inl ⟨_, _, _, _, _, _, _, _, _, qr⟩⟩
theorem case_line {n p lm : Nat} (hn : n ≤ 940) (hl : lm ≤ 940) {F G : Nat → Int32} (ha : ∀ j, j < n → F j = G j) {lt : Int64} {bh av kd nm to fr kd' nm' sg : Int32} {wd : Int64} (fa ft pl td : Int32) {cf : Nat → Int32} {j f c : Nat} {N1 N2 N3 M : Nat → Int64} {rd : Nat → Int32} (hN : NM j f c N1 N2 N3 M) (r0 : rd 0 = nI j) (r1 : rd 1 = nI f) (r2 : rd 2 = nI c)  (h : TR n p lt bh av kd nm to fr kd' nm' sg wd) (hk : kd = 2) :
    (∃ (p9 : Nat) (l9 : Int64) (b9 a9 k9 m9 t9 f9 q9 n9 s9 : Int32) (w9 : Int64) (L Wd : Int64) (v1 td' : Int32) (rd' : Nat → Int32) (t8 f8 q8 n8 s8 : Int32) (w8 : Int64), p + 2 ≤ p9 ∧ p9 ≤ n ∧ TR n p9 l9 b9 a9 k9 m9 t9 f9 q9 n9 s9 w9 ∧ c < 5 ∧ wr L Wd ∧ y_X2_readCase (nI j) (nI f) (nI c) (nI n) 0 fa lt (nI lm) bh av kd nm F N1 N2 N3 cf = (nI (c + 1), 0, fa, l9, b9, a9, k9, m9, vp_updL N3 c L, upd cf c v1) ∧ y_X12_readCase (nI n) (nI lm) to fr kd' nm' sg ft pl wd td rd G M = (1, t8, f8, q8, n8, s8, ft, pl, w8, td', rd', vp_updL M (14 + c) Wd) ∧ y_X12_readEnd (nI n) (nI lm) t8 f8 q8 n8 s8 ft pl w8 G = (1, t9, f9, q9, n9, s9, ft, pl, w9) ∧ rd' 2 = nI (c + 1) ∧ rd' (44 + c) = v1 ∧ ∀ k, k ≠ 2 → k ≠ 44 + c → rd' k = rd k) ∨ (∃ g P : Int32, ¬ g = 0 ∧ (∃ x0 x1 x2 x3 x4 x5 x6 x7, y_X2_readCase (nI j) (nI f) (nI c) (nI n) 0 fa lt (nI lm) bh av kd nm F N1 N2 N3 cf = (x0, g, P, x1, x2, x3, x4, x5, x6, x7)) ∧ ((∃ y0 y1 y2 y3 y4 y5 y6 y7 y8, y_X12_readCase (nI n) (nI lm) to fr kd' nm' sg ft pl wd td rd G M = (0, y0, y1, y2, y3, y4, g, P, y5, y6, y7, y8)) ∨ (∃ y0 y1 y2 y3 y4 y5 y6 y7 y8 t9 f9 q9 n9 s9 w9, y_X12_readCase (nI n) (nI lm) to fr kd' nm' sg ft pl wd td rd G M = (1, y0, y1, y2, y3, y4, ft, pl, y5, y6, y7, y8) ∧ y_X12_readEnd (nI n) (nI lm) y0 y1 y2 y3 y4 ft pl y5 G = (0, t9, f9, q9, n9, s9, g, P, w9)))) := by
  have e0 := h.1
  have hj := hN.1
  have hf := hN.2.1
  have hc := hN.2.2.1
  have z0 : (0 : Int32).toNatClampNeg = 0 := by decide
  have z1 : (1 : Int32).toNatClampNeg = 1 := by decide
  have z2 : (2 : Int32).toNatClampNeg = 2 := by decide
  have z35 : (35 : Int32).toNatClampNeg = 35 := by decide
  have zj : (nI j).toNatClampNeg = j := nI_clamp (by omega)
  have zf : (nI f).toNatClampNeg = f := nI_clamp (by omega)
  have zc : (nI c).toNatClampNeg = c := nI_clamp (by omega)
  have hq : kd' = 2 := by
    rcases h.kr with ⟨-, b, -⟩ | ⟨a, -⟩
    · exact b
    · exact absurd hk a
  have o14 : ((14 : Int32) + nI c).toNatClampNeg = 14 + c := by rw [show (14 : Int32) + nI c = nI (14 + c) from nI_add 14 c]; exact nI_clamp (by omega)
  have o44 : ((44 : Int32) + nI c).toNatClampNeg = 44 + c := by rw [show (44 : Int32) + nI c = nI (44 + c) from nI_add 44 c]; exact nI_clamp (by omega)
  by_cases c0 : c < 5
  · have c0' : nI c < (5 : Int32) := (lt5_v (by omega)).mpr c0
    obtain ⟨p1, l1, b1, a1, k1, m1, t1, f1, q1, n1, s1, w1, g1, g2, g3, g4, g5, -, -⟩ := op_go hn hl ha h hk
    have ef : y_X12_readFirst_c (nI n) (nI lm) to fr kd' nm' sg ft pl wd rd G = (1, t1, f1, q1, n1, s1, ft, pl, w1) := first_c ft pl c0 r2 g5
    rcases op_new hn hl ha fa ft pl ((14 : Int32) + nI c) hN r0 r1 r2 g3 with ⟨p2, l2, b2, a2, k2, m2, t2, f2, q2, n2, s2, w2, d1, d2, dw, d3, dt, dc, dr⟩ | ⟨g, hg, ec, er⟩
    rotate_left
    · rcases told_01 l1 (nI j) (nI f) (nI c) N1 N2 N3 with e | e
      · rw [e] at ec
        have qc : y_X2_readCase (nI j) (nI f) (nI c) (nI n) 0 fa lt (nI lm) bh av kd nm F N1 N2 N3 cf = (nI c, g, f1, 0, b1, a1, 0, m1, N3, cf) := by rw [y_X2_readCase_s, if_pos c0']; simp only [lt1, lt2_t, lt3_t, lt4_t, lt5_t, lt6_t, lt7_t, lt8_t, lt9_t, lt10_t, lt11_t, lt12_t, lt13_t, if_pos, if_neg oz, if_neg zo, isBroken0, fail0, if1, nI_1, g4, e, ec, num1 hg, sign1 hg, isBroken1 hg, new1 hg, found1 hg]
        have qr : y_X12_readCase (nI n) (nI lm) to fr kd' nm' sg ft pl wd td rd G M = (0, t1, f1, q1, n1, s1, g, f1, w1, td, rd, M) := by rw [y_X12_readCase_s]; simp only [lt1, lt2_t, lt3_t, lt4_t, lt5_t, lt6_t, lt7_t, lt8_t, lt9_t, lt10_t, lt11_t, lt12_t, lt13_t, if_pos, if_neg oz, if_neg zo, isBroken0, fail0, if1, nI_1, ef, z0, z1, z2, r0, r1, r2, er]
        exact Or.inr ⟨g, _, hg, ⟨_, _, _, _, _, _, _, _, qc⟩, Or.inl ⟨_, _, _, _, _, _, _, _, _, qr⟩⟩
      · rw [e] at ec
        have qc : y_X2_readCase (nI j) (nI f) (nI c) (nI n) 0 fa lt (nI lm) bh av kd nm F N1 N2 N3 cf = (nI c, g, f1, 0, b1, a1, 0, m1, N3, cf) := by rw [y_X2_readCase_s, if_pos c0']; simp only [lt1, lt2_t, lt3_t, lt4_t, lt5_t, lt6_t, lt7_t, lt8_t, lt9_t, lt10_t, lt11_t, lt12_t, lt13_t, if_pos, if_neg oz, if_neg zo, isBroken0, fail0, if1, nI_1, g4, e, ec, num1 hg, sign1 hg, isBroken1 hg, new1 hg, found1 hg]
        have qr : y_X12_readCase (nI n) (nI lm) to fr kd' nm' sg ft pl wd td rd G M = (0, t1, f1, q1, n1, s1, g, f1, w1, td, rd, M) := by rw [y_X12_readCase_s]; simp only [lt1, lt2_t, lt3_t, lt4_t, lt5_t, lt6_t, lt7_t, lt8_t, lt9_t, lt10_t, lt11_t, lt12_t, lt13_t, if_pos, if_neg oz, if_neg zo, isBroken0, fail0, if1, nI_1, ef, z0, z1, z2, r0, r1, r2, er]
        exact Or.inr ⟨g, _, hg, ⟨_, _, _, _, _, _, _, _, qc⟩, Or.inl ⟨_, _, _, _, _, _, _, _, _, qr⟩⟩
    · have dr := dr
      rw [o14] at dr
      have nf : NR 10 f N2 (vp_updL M (14 + c) w1) := fun k hk => by
        rw [updL_n (by omega)]; exact hN.2.2.2.2.1 k hk
      rcases isOne_f_v ft pl td hf nf d3 with ⟨k, hk9, cn, en, er⟩ | ⟨t, hc9, er⟩
      · have hm : ¬ nI k = (-1) := nI_m1 (by omega)
        obtain ⟨p3, l3, b3, a3, k3, m3, t3, f3, q3, n3, s3, w3, x1, x2, x3, xc, xr⟩ := found_ok hn hl ha fa hm cn d3
        rcases op_end hn hl ha fa ft pl x3 with ⟨p7, l7, b7, a7, k7, m7, t7, f7, q7, n7, s7, w7, u1, u2, u3, uc, ur⟩ | ⟨g, hg, uc, ur⟩
        · have qc : y_X2_readCase (nI j) (nI f) (nI c) (nI n) 0 fa lt (nI lm) bh av kd nm F N1 N2 N3 cf = (nI (c + 1), 0, fa, l7, b7, a7, k7, m7, vp_updL N3 c l1, upd cf c (nI k)) := by rw [y_X2_readCase_s, if_pos c0']; simp only [lt1, lt2_t, lt3_t, lt4_t, lt5_t, lt6_t, lt7_t, lt8_t, lt9_t, lt10_t, lt11_t, lt12_t, lt13_t, if_pos, if_neg oz, if_neg zo, isBroken0, fail0, if1, nI_1, g4, dt, dc, en, xc, if_neg hm, uc, zc]
          have qr : y_X12_readCase (nI n) (nI lm) to fr kd' nm' sg ft pl wd td rd G M = (1, t3, f3, q3, n3, s3, ft, pl, w3, nI k, (upd (upd rd (44 + c) (nI k)) 2 (upd rd (44 + c) (nI k) 2 + 1)), vp_updL M (14 + c) w1) := by rw [y_X12_readCase_s]; simp only [lt1, lt2_t, lt3_t, lt4_t, lt5_t, lt6_t, lt7_t, lt8_t, lt9_t, lt10_t, lt11_t, lt12_t, lt13_t, if_pos, if_neg oz, if_neg zo, isBroken0, fail0, if1, nI_1, ef, z0, z1, z2, r0, r1, r2, dr, o14, o44, y_X12_put_on_s, y_X12_put_0_s, er, xr]
          refine Or.inl ⟨p7, l7, b7, a7, k7, m7, t7, f7, q7, n7, s7, w7, l1, w1, nI k, _, _, t3, f3, q3, n3, s3, w3, by omega, u2, u3, c0, dw, qc, qr, ur, ?_, ?_, ?_⟩
          · rw [updI_s, updI_n (show (2 : Nat) ≠ 44 + c by omega), r2, nI_1]
          · rw [updI_n (show (44 + c : Nat) ≠ 2 by omega), updI_s]
          · intro k h2 h44
            rw [updI_n h2, updI_n h44]
        · skip
          have qc : y_X2_readCase (nI j) (nI f) (nI c) (nI n) 0 fa lt (nI lm) bh av kd nm F N1 N2 N3 cf = (nI c, g, f3, 0, b3, a3, 0, m3, N3, cf) := by rw [y_X2_readCase_s, if_pos c0']; simp only [lt1, lt2_t, lt3_t, lt4_t, lt5_t, lt6_t, lt7_t, lt8_t, lt9_t, lt10_t, lt11_t, lt12_t, lt13_t, if_pos, if_neg oz, if_neg zo, isBroken0, fail0, if1, nI_1, g4, dt, dc, en, xc, if_neg hm, uc, isBroken1 hg]
          have qr : y_X12_readCase (nI n) (nI lm) to fr kd' nm' sg ft pl wd td rd G M = (1, t3, f3, q3, n3, s3, ft, pl, w3, nI k, (upd (upd rd (44 + c) (nI k)) 2 (upd rd (44 + c) (nI k) 2 + 1)), vp_updL M (14 + c) w1) := by rw [y_X12_readCase_s]; simp only [lt1, lt2_t, lt3_t, lt4_t, lt5_t, lt6_t, lt7_t, lt8_t, lt9_t, lt10_t, lt11_t, lt12_t, lt13_t, if_pos, if_neg oz, if_neg zo, isBroken0, fail0, if1, nI_1, ef, z0, z1, z2, r0, r1, r2, dr, o14, o44, y_X12_put_on_s, y_X12_put_0_s, er, xr]
          exact Or.inr ⟨g, _, hg, ⟨_, _, _, _, _, _, _, _, qc⟩, Or.inr ⟨_, _, _, _, _, _, _, _, _, _, _, _, _, _, _, qr, ur⟩⟩
      · have fb := found_bad (n := n) (lm := lm) (F := F) fa d3 hc9
        have hg : ¬ (if y_X12_isName q2 w2 = 0 then (1 : Int32) else 3) = 0 := by split <;> decide
        generalize (if y_X12_isName q2 w2 = 0 then (1 : Int32) else 3) = g at hg fb er
        have qc : y_X2_readCase (nI j) (nI f) (nI c) (nI n) 0 fa lt (nI lm) bh av kd nm F N1 N2 N3 cf = (nI c, g, f2, 0, b2, a2, 0, m2, N3, cf) := by rw [y_X2_readCase_s, if_pos c0']; simp only [lt1, lt2_t, lt3_t, lt4_t, lt5_t, lt6_t, lt7_t, lt8_t, lt9_t, lt10_t, lt11_t, lt12_t, lt13_t, if_pos, if_neg oz, if_neg zo, isBroken0, fail0, if1, nI_1, g4, dt, dc, fb, isBroken1 hg]
        have qr : y_X12_readCase (nI n) (nI lm) to fr kd' nm' sg ft pl wd td rd G M = (0, t2, f2, q2, n2, s2, g, f2, w2, t, rd, vp_updL M (14 + c) w1) := by rw [y_X12_readCase_s]; simp only [lt1, lt2_t, lt3_t, lt4_t, lt5_t, lt6_t, lt7_t, lt8_t, lt9_t, lt10_t, lt11_t, lt12_t, lt13_t, if_pos, if_neg oz, if_neg zo, isBroken0, fail0, if1, nI_1, ef, z0, z1, z2, r0, r1, r2, dr, o14, o44, y_X12_put_on_s, y_X12_put_0_s, er]
        exact Or.inr ⟨g, _, hg, ⟨_, _, _, _, _, _, _, _, qc⟩, Or.inl ⟨_, _, _, _, _, _, _, _, _, qr⟩⟩
  · have c0' : ¬ nI c < (5 : Int32) := fun z => c0 ((lt5_v (by omega)).mp z)
    have c1 : c = 5 := by omega
    have ef : y_X12_readFirst_c (nI n) (nI lm) to fr 2 nm' sg ft pl wd rd G = (0, to, fr, 2, nm', sg, 4, fr, wd) := first_c_bad ft pl (by rw [r2, c1])
    subst hq
    have h4 : ¬ (4 : Int32) = 0 := by decide
    have qc : y_X2_readCase (nI j) (nI f) (nI c) (nI n) 0 fa lt (nI lm) bh av kd nm F N1 N2 N3 cf = (nI c, 4, fr, 0, bh, av, 0, nm, N3, cf) := by rw [y_X2_readCase_s, if_neg c0']; simp only [lt1, lt2_t, lt3_t, lt4_t, lt5_t, lt6_t, lt7_t, lt8_t, lt9_t, lt10_t, lt11_t, lt12_t, lt13_t, if_pos, if_neg oz, if_neg zo, isBroken0, fail0, if1, nI_1, isBroken1 h4, ite_self, e0]
    have qr : y_X12_readCase (nI n) (nI lm) to fr 2 nm' sg ft pl wd td rd G M = (0, to, fr, 2, nm', sg, 4, fr, wd, td, rd, M) := by rw [y_X12_readCase_s]; simp only [lt1, lt2_t, lt3_t, lt4_t, lt5_t, lt6_t, lt7_t, lt8_t, lt9_t, lt10_t, lt11_t, lt12_t, lt13_t, if_pos, if_neg oz, if_neg zo, isBroken0, fail0, if1, nI_1, ef]
    exact Or.inr ⟨4, _, h4, ⟨_, _, _, _, _, _, _, _, qc⟩, Or.inl ⟨_, _, _, _, _, _, _, _, _, qr⟩⟩
theorem one_line {n p lm : Nat} (hn : n ≤ 940) (hl : lm ≤ 940) {F G : Nat → Int32} (ha : ∀ j, j < n → F j = G j) {lt : Int64} {bh av kd nm to fr kd' nm' sg : Int32} {wd : Int64} (fa ft pl td tl : Int32) {rd on : Nat → Int32} (ho : on 0 = tl) (h : TR n p lt bh av kd nm to fr kd' nm' sg wd) (hk : kd = 2) :
    (∃ (p9 : Nat) (l9 : Int64) (b9 a9 k9 m9 t9 f9 q9 n9 s9 : Int32) (w9 : Int64) (v1 td' : Int32) (on' rd' : Nat → Int32) (t8 f8 q8 n8 s8 : Int32) (w8 : Int64), p + 2 ≤ p9 ∧ p9 ≤ n ∧ TR n p9 l9 b9 a9 k9 m9 t9 f9 q9 n9 s9 w9 ∧ tl = 0 ∧ y_X2_readOne tl (nI n) 0 fa lt (nI lm) bh av kd nm F = (0, fa, l9, b9, a9, k9, m9, v1) ∧ y_X12_readOnce 0 3 20 (nI n) (nI lm) to fr kd' nm' sg ft pl wd td on G rd = (1, t8, f8, q8, n8, s8, ft, pl, w8, td', on', rd') ∧ y_X12_readEnd (nI n) (nI lm) t8 f8 q8 n8 s8 ft pl w8 G = (1, t9, f9, q9, n9, s9, ft, pl, w9) ∧ on' 0 = 1 ∧ on' 1 = on 1 ∧ rd' 3 = v1 ∧ ∀ k, k ≠ 3 → rd' k = rd k) ∨ (∃ g P : Int32, ¬ g = 0 ∧ (∃ x0 x1 x2 x3 x4 x5, y_X2_readOne tl (nI n) 0 fa lt (nI lm) bh av kd nm F = (g, P, x0, x1, x2, x3, x4, x5)) ∧ ((∃ y0 y1 y2 y3 y4 y5 y6 y7 y8, y_X12_readOnce 0 3 20 (nI n) (nI lm) to fr kd' nm' sg ft pl wd td on G rd = (0, y0, y1, y2, y3, y4, g, P, y5, y6, y7, y8)) ∨ (∃ y0 y1 y2 y3 y4 y5 y6 y7 y8 t9 f9 q9 n9 s9 w9, y_X12_readOnce 0 3 20 (nI n) (nI lm) to fr kd' nm' sg ft pl wd td on G rd = (1, y0, y1, y2, y3, y4, ft, pl, y5, y6, y7, y8) ∧ y_X12_readEnd (nI n) (nI lm) y0 y1 y2 y3 y4 ft pl y5 G = (0, t9, f9, q9, n9, s9, g, P, w9)))) := by
  have e0 := h.1
  have z0 : (0 : Int32).toNatClampNeg = 0 := by decide
  have z1 : (1 : Int32).toNatClampNeg = 1 := by decide
  have z3 : (3 : Int32).toNatClampNeg = 3 := by decide
  have z4 : (4 : Int32).toNatClampNeg = 4 := by decide
  have zb : vp_nar .boolean 1 = 1 := by decide
  have hq : kd' = 2 := by
    rcases h.kr with ⟨-, b, -⟩ | ⟨a, -⟩
    · exact b
    · exact absurd hk a
  by_cases c0 : tl = 0
  · obtain ⟨p1, l1, b1, a1, k1, m1, t1, f1, q1, n1, s1, w1, g1, g2, g3, g4, g5, -, -⟩ := op_go hn hl ha h hk
    have ho0 : on 0 = 0 := ho.trans c0
    rcases op_num hn hl ha fa ft pl td 0 20 g3 with ⟨p2, v2, l2, b2, a2, k2, m2, t2, f2, q2, n2, s2, w2, da2, db2, dlo2, dhi2, d2, cc2, rr2⟩ | ⟨g, hg, ec, er⟩
    rotate_left
    · skip
      have qc : y_X2_readOne tl (nI n) 0 fa lt (nI lm) bh av kd nm F = (g, f1, 0, b1, a1, 0, m1, 0) := by rw [y_X2_readOne_s, if_pos c0]; simp only [lt1, lt2_t, lt3_t, lt4_t, lt5_t, lt6_t, lt7_t, lt8_t, lt9_t, lt10_t, lt11_t, lt12_t, lt13_t, if_pos, if_neg oz, if_neg zo, isBroken0, fail0, if1, nI_1, g4, ec, num1 hg, sign1 hg, isBroken1 hg, new1 hg, found1 hg]
      have qr : y_X12_readOnce 0 3 20 (nI n) (nI lm) to fr kd' nm' sg ft pl wd td on G rd = (0, t1, f1, q1, n1, s1, g, f1, w1, td, (upd on 0 1), rd) := by rw [y_X12_readOnce_s]; simp only [lt1, lt2_t, lt3_t, lt4_t, lt5_t, lt6_t, lt7_t, lt8_t, lt9_t, lt10_t, lt11_t, lt12_t, lt13_t, if_pos, if_neg oz, if_neg zo, isBroken0, fail0, if1, nI_1, z0, z1, z3, z4, zb, ho0, g5, put4z, put4o, er]
      exact Or.inr ⟨g, _, hg, ⟨_, _, _, _, _, _, qc⟩, Or.inl ⟨_, _, _, _, _, _, _, _, _, qr⟩⟩
    · skip
      rcases op_end hn hl ha fa ft pl d2 with ⟨p7, l7, b7, a7, k7, m7, t7, f7, q7, n7, s7, w7, u1, u2, u3, uc, ur⟩ | ⟨g, hg, uc, ur⟩
      · have qc : y_X2_readOne tl (nI n) 0 fa lt (nI lm) bh av kd nm F = (0, fa, l7, b7, a7, k7, m7, v2) := by rw [y_X2_readOne_s, if_pos c0]; simp only [lt1, lt2_t, lt3_t, lt4_t, lt5_t, lt6_t, lt7_t, lt8_t, lt9_t, lt10_t, lt11_t, lt12_t, lt13_t, if_pos, if_neg oz, if_neg zo, isBroken0, fail0, if1, nI_1, g4, cc2, uc]
        have qr : y_X12_readOnce 0 3 20 (nI n) (nI lm) to fr kd' nm' sg ft pl wd td on G rd = (1, t2, f2, q2, n2, s2, ft, pl, w2, v2, (upd on 0 1), (upd rd 3 v2)) := by rw [y_X12_readOnce_s]; simp only [lt1, lt2_t, lt3_t, lt4_t, lt5_t, lt6_t, lt7_t, lt8_t, lt9_t, lt10_t, lt11_t, lt12_t, lt13_t, if_pos, if_neg oz, if_neg zo, isBroken0, fail0, if1, nI_1, z0, z1, z3, z4, zb, ho0, g5, put4z, put4o, rr2]
        exact Or.inl ⟨p7, l7, b7, a7, k7, m7, t7, f7, q7, n7, s7, w7, v2, _, _, _, t2, f2, q2, n2, s2, w2, by omega, u2, u3, c0, qc, qr, ur, updI_s, updI_n (by decide), updI_s, fun k h => updI_n h⟩
      · skip
        have qc : y_X2_readOne tl (nI n) 0 fa lt (nI lm) bh av kd nm F = (g, f2, 0, b2, a2, 0, m2, v2) := by rw [y_X2_readOne_s, if_pos c0]; simp only [lt1, lt2_t, lt3_t, lt4_t, lt5_t, lt6_t, lt7_t, lt8_t, lt9_t, lt10_t, lt11_t, lt12_t, lt13_t, if_pos, if_neg oz, if_neg zo, isBroken0, fail0, if1, nI_1, g4, cc2, uc]
        have qr : y_X12_readOnce 0 3 20 (nI n) (nI lm) to fr kd' nm' sg ft pl wd td on G rd = (1, t2, f2, q2, n2, s2, ft, pl, w2, v2, (upd on 0 1), (upd rd 3 v2)) := by rw [y_X12_readOnce_s]; simp only [lt1, lt2_t, lt3_t, lt4_t, lt5_t, lt6_t, lt7_t, lt8_t, lt9_t, lt10_t, lt11_t, lt12_t, lt13_t, if_pos, if_neg oz, if_neg zo, isBroken0, fail0, if1, nI_1, z0, z1, z3, z4, zb, ho0, g5, put4z, put4o, rr2]
        exact Or.inr ⟨g, _, hg, ⟨_, _, _, _, _, _, qc⟩, Or.inr ⟨_, _, _, _, _, _, _, _, _, _, _, _, _, _, _, qr, ur⟩⟩
  · have h3 : ¬ (3 : Int32) = 0 := by decide
    have ho0 : ¬ on 0 = 0 := fun z => c0 (ho.symm.trans z)
    have hb : y_X12_bad 3 2 = (0, 3) := by rw [bad_v, if_neg (by decide)]
    subst hq
    have qc : y_X2_readOne tl (nI n) 0 fa lt (nI lm) bh av kd nm F = (3, fr, 0, bh, av, 0, nm, y_X6_takeNumber_br 0 20 0 nm) := by rw [y_X2_readOne_s, if_neg c0]; simp only [lt1, lt2_t, lt3_t, lt4_t, lt5_t, lt6_t, lt7_t, lt8_t, lt9_t, lt10_t, lt11_t, lt12_t, lt13_t, if_pos, if_neg oz, if_neg zo, isBroken0, fail0, if1, nI_1, e0]
    have qr : y_X12_readOnce 0 3 20 (nI n) (nI lm) to fr 2 nm' sg ft pl wd td on G rd = (0, to, fr, 2, nm', sg, 3, fr, wd, td, on, rd) := by rw [y_X12_readOnce_s]; simp only [lt1, lt2_t, lt3_t, lt4_t, lt5_t, lt6_t, lt7_t, lt8_t, lt9_t, lt10_t, lt11_t, lt12_t, lt13_t, if_pos, if_neg oz, if_neg zo, isBroken0, fail0, if1, nI_1, z0, z1, z3, z4, if_neg ho0, hb]
    exact Or.inr ⟨3, _, h3, ⟨_, _, _, _, _, _, qc⟩, Or.inl ⟨_, _, _, _, _, _, _, _, _, qr⟩⟩
theorem dent_line {n p lm : Nat} (hn : n ≤ 940) (hl : lm ≤ 940) {F G : Nat → Int32} (ha : ∀ j, j < n → F j = G j) {lt : Int64} {bh av kd nm to fr kd' nm' sg : Int32} {wd : Int64} (fa ft pl td tl : Int32) {rd on : Nat → Int32} (ho : on 1 = tl) (h : TR n p lt bh av kd nm to fr kd' nm' sg wd) (hk : kd = 2) :
    (∃ (p9 : Nat) (l9 : Int64) (b9 a9 k9 m9 t9 f9 q9 n9 s9 : Int32) (w9 : Int64) (v1 td' : Int32) (on' rd' : Nat → Int32) (t8 f8 q8 n8 s8 : Int32) (w8 : Int64), p + 2 ≤ p9 ∧ p9 ≤ n ∧ TR n p9 l9 b9 a9 k9 m9 t9 f9 q9 n9 s9 w9 ∧ tl = 0 ∧ y_X2_readDent tl (nI n) 0 fa lt (nI lm) bh av kd nm F = (0, fa, l9, b9, a9, k9, m9, v1) ∧ y_X12_readOnce 1 4 9 (nI n) (nI lm) to fr kd' nm' sg ft pl wd td on G rd = (1, t8, f8, q8, n8, s8, ft, pl, w8, td', on', rd') ∧ y_X12_readEnd (nI n) (nI lm) t8 f8 q8 n8 s8 ft pl w8 G = (1, t9, f9, q9, n9, s9, ft, pl, w9) ∧ on' 1 = 1 ∧ on' 0 = on 0 ∧ rd' 4 = v1 ∧ ∀ k, k ≠ 4 → rd' k = rd k) ∨ (∃ g P : Int32, ¬ g = 0 ∧ (∃ x0 x1 x2 x3 x4 x5, y_X2_readDent tl (nI n) 0 fa lt (nI lm) bh av kd nm F = (g, P, x0, x1, x2, x3, x4, x5)) ∧ ((∃ y0 y1 y2 y3 y4 y5 y6 y7 y8, y_X12_readOnce 1 4 9 (nI n) (nI lm) to fr kd' nm' sg ft pl wd td on G rd = (0, y0, y1, y2, y3, y4, g, P, y5, y6, y7, y8)) ∨ (∃ y0 y1 y2 y3 y4 y5 y6 y7 y8 t9 f9 q9 n9 s9 w9, y_X12_readOnce 1 4 9 (nI n) (nI lm) to fr kd' nm' sg ft pl wd td on G rd = (1, y0, y1, y2, y3, y4, ft, pl, y5, y6, y7, y8) ∧ y_X12_readEnd (nI n) (nI lm) y0 y1 y2 y3 y4 ft pl y5 G = (0, t9, f9, q9, n9, s9, g, P, w9)))) := by
  have e0 := h.1
  have z0 : (0 : Int32).toNatClampNeg = 0 := by decide
  have z1 : (1 : Int32).toNatClampNeg = 1 := by decide
  have z3 : (3 : Int32).toNatClampNeg = 3 := by decide
  have z4 : (4 : Int32).toNatClampNeg = 4 := by decide
  have zb : vp_nar .boolean 1 = 1 := by decide
  have hq : kd' = 2 := by
    rcases h.kr with ⟨-, b, -⟩ | ⟨a, -⟩
    · exact b
    · exact absurd hk a
  by_cases c0 : tl = 0
  · obtain ⟨p1, l1, b1, a1, k1, m1, t1, f1, q1, n1, s1, w1, g1, g2, g3, g4, g5, -, -⟩ := op_go hn hl ha h hk
    have ho0 : on 1 = 0 := ho.trans c0
    rcases op_num hn hl ha fa ft pl td 0 9 g3 with ⟨p2, v2, l2, b2, a2, k2, m2, t2, f2, q2, n2, s2, w2, da2, db2, dlo2, dhi2, d2, cc2, rr2⟩ | ⟨g, hg, ec, er⟩
    rotate_left
    · skip
      have qc : y_X2_readDent tl (nI n) 0 fa lt (nI lm) bh av kd nm F = (g, f1, 0, b1, a1, 0, m1, 0) := by rw [y_X2_readDent_s, if_pos c0]; simp only [lt1, lt2_t, lt3_t, lt4_t, lt5_t, lt6_t, lt7_t, lt8_t, lt9_t, lt10_t, lt11_t, lt12_t, lt13_t, if_pos, if_neg oz, if_neg zo, isBroken0, fail0, if1, nI_1, g4, ec, num1 hg, sign1 hg, isBroken1 hg, new1 hg, found1 hg]
      have qr : y_X12_readOnce 1 4 9 (nI n) (nI lm) to fr kd' nm' sg ft pl wd td on G rd = (0, t1, f1, q1, n1, s1, g, f1, w1, td, (upd on 1 1), rd) := by rw [y_X12_readOnce_s]; simp only [lt1, lt2_t, lt3_t, lt4_t, lt5_t, lt6_t, lt7_t, lt8_t, lt9_t, lt10_t, lt11_t, lt12_t, lt13_t, if_pos, if_neg oz, if_neg zo, isBroken0, fail0, if1, nI_1, z0, z1, z3, z4, zb, ho0, g5, put4z, put4o, er]
      exact Or.inr ⟨g, _, hg, ⟨_, _, _, _, _, _, qc⟩, Or.inl ⟨_, _, _, _, _, _, _, _, _, qr⟩⟩
    · skip
      rcases op_end hn hl ha fa ft pl d2 with ⟨p7, l7, b7, a7, k7, m7, t7, f7, q7, n7, s7, w7, u1, u2, u3, uc, ur⟩ | ⟨g, hg, uc, ur⟩
      · have qc : y_X2_readDent tl (nI n) 0 fa lt (nI lm) bh av kd nm F = (0, fa, l7, b7, a7, k7, m7, v2) := by rw [y_X2_readDent_s, if_pos c0]; simp only [lt1, lt2_t, lt3_t, lt4_t, lt5_t, lt6_t, lt7_t, lt8_t, lt9_t, lt10_t, lt11_t, lt12_t, lt13_t, if_pos, if_neg oz, if_neg zo, isBroken0, fail0, if1, nI_1, g4, cc2, uc]
        have qr : y_X12_readOnce 1 4 9 (nI n) (nI lm) to fr kd' nm' sg ft pl wd td on G rd = (1, t2, f2, q2, n2, s2, ft, pl, w2, v2, (upd on 1 1), (upd rd 4 v2)) := by rw [y_X12_readOnce_s]; simp only [lt1, lt2_t, lt3_t, lt4_t, lt5_t, lt6_t, lt7_t, lt8_t, lt9_t, lt10_t, lt11_t, lt12_t, lt13_t, if_pos, if_neg oz, if_neg zo, isBroken0, fail0, if1, nI_1, z0, z1, z3, z4, zb, ho0, g5, put4z, put4o, rr2]
        exact Or.inl ⟨p7, l7, b7, a7, k7, m7, t7, f7, q7, n7, s7, w7, v2, _, _, _, t2, f2, q2, n2, s2, w2, by omega, u2, u3, c0, qc, qr, ur, updI_s, updI_n (by decide), updI_s, fun k h => updI_n h⟩
      · skip
        have qc : y_X2_readDent tl (nI n) 0 fa lt (nI lm) bh av kd nm F = (g, f2, 0, b2, a2, 0, m2, v2) := by rw [y_X2_readDent_s, if_pos c0]; simp only [lt1, lt2_t, lt3_t, lt4_t, lt5_t, lt6_t, lt7_t, lt8_t, lt9_t, lt10_t, lt11_t, lt12_t, lt13_t, if_pos, if_neg oz, if_neg zo, isBroken0, fail0, if1, nI_1, g4, cc2, uc]
        have qr : y_X12_readOnce 1 4 9 (nI n) (nI lm) to fr kd' nm' sg ft pl wd td on G rd = (1, t2, f2, q2, n2, s2, ft, pl, w2, v2, (upd on 1 1), (upd rd 4 v2)) := by rw [y_X12_readOnce_s]; simp only [lt1, lt2_t, lt3_t, lt4_t, lt5_t, lt6_t, lt7_t, lt8_t, lt9_t, lt10_t, lt11_t, lt12_t, lt13_t, if_pos, if_neg oz, if_neg zo, isBroken0, fail0, if1, nI_1, z0, z1, z3, z4, zb, ho0, g5, put4z, put4o, rr2]
        exact Or.inr ⟨g, _, hg, ⟨_, _, _, _, _, _, qc⟩, Or.inr ⟨_, _, _, _, _, _, _, _, _, _, _, _, _, _, _, qr, ur⟩⟩
  · have h3 : ¬ (3 : Int32) = 0 := by decide
    have ho0 : ¬ on 1 = 0 := fun z => c0 (ho.symm.trans z)
    have hb : y_X12_bad 3 2 = (0, 3) := by rw [bad_v, if_neg (by decide)]
    subst hq
    have qc : y_X2_readDent tl (nI n) 0 fa lt (nI lm) bh av kd nm F = (3, fr, 0, bh, av, 0, nm, y_X6_takeNumber_br 0 9 0 nm) := by rw [y_X2_readDent_s, if_neg c0]; simp only [lt1, lt2_t, lt3_t, lt4_t, lt5_t, lt6_t, lt7_t, lt8_t, lt9_t, lt10_t, lt11_t, lt12_t, lt13_t, if_pos, if_neg oz, if_neg zo, isBroken0, fail0, if1, nI_1, e0]
    have qr : y_X12_readOnce 1 4 9 (nI n) (nI lm) to fr 2 nm' sg ft pl wd td on G rd = (0, to, fr, 2, nm', sg, 3, fr, wd, td, on, rd) := by rw [y_X12_readOnce_s]; simp only [lt1, lt2_t, lt3_t, lt4_t, lt5_t, lt6_t, lt7_t, lt8_t, lt9_t, lt10_t, lt11_t, lt12_t, lt13_t, if_pos, if_neg oz, if_neg zo, isBroken0, fail0, if1, nI_1, z0, z1, z3, z4, if_neg ho0, hb]
    exact Or.inr ⟨3, _, h3, ⟨_, _, _, _, _, _, qc⟩, Or.inl ⟨_, _, _, _, _, _, _, _, _, qr⟩⟩
