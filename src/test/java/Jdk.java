import java.security.GeneralSecurityException;
import java.security.KeyFactory;
import java.security.PrivateKey;
import java.security.PublicKey;
import java.security.Signature;
import java.security.spec.MGF1ParameterSpec;
import java.security.spec.PSSParameterSpec;
import java.security.spec.RSAPrivateKeySpec;
import java.security.spec.RSAPublicKeySpec;
import javax.crypto.Cipher;
import javax.crypto.spec.OAEPParameterSpec;
import javax.crypto.spec.PSource;

/** The same paddings as Java's own library has them: what others would send to the class, and take from it. */
final class Jdk {
    private final PublicKey open;
    private final PrivateKey whole;

    Jdk(Keys key) {
        try {
            KeyFactory factory = KeyFactory.getInstance("RSA");
            open = factory.generatePublic(new RSAPublicKeySpec(key.n, key.e));
            whole = factory.generatePrivate(new RSAPrivateKeySpec(key.n, key.d));
        } catch (GeneralSecurityException none) {
            throw new IllegalStateException(none);
        }
    }

    private static MGF1ParameterSpec masks(int hash) {
        return hash == 0 ? MGF1ParameterSpec.SHA256 : MGF1ParameterSpec.SHA224;
    }

    private static String digestName(int hash) {
        return hash == 0 ? "SHA-256" : "SHA-224";
    }

    private Cipher oaep(int mode, int hash, byte[] label) throws GeneralSecurityException {
        Cipher cipher = Cipher.getInstance("RSA/ECB/OAEPPadding");
        cipher.init(mode, mode == Cipher.ENCRYPT_MODE ? open : whole, new OAEPParameterSpec(digestName(hash),
                "MGF1", masks(hash), new PSource.PSpecified(label)));
        return cipher;
    }

    byte[] hide(int hash, byte[] label, byte[] message) throws GeneralSecurityException {
        return oaep(Cipher.ENCRYPT_MODE, hash, label).doFinal(message);
    }

    byte[] show(int hash, byte[] label, byte[] hidden) throws GeneralSecurityException {
        return oaep(Cipher.DECRYPT_MODE, hash, label).doFinal(hidden);
    }

    byte[] fill(byte[] message) throws GeneralSecurityException {
        Cipher cipher = Cipher.getInstance("RSA/ECB/PKCS1Padding");
        cipher.init(Cipher.ENCRYPT_MODE, open);
        return cipher.doFinal(message);
    }

    byte[] empty(byte[] filled) throws GeneralSecurityException {
        Cipher cipher = Cipher.getInstance("RSA/ECB/PKCS1Padding");
        cipher.init(Cipher.DECRYPT_MODE, whole);
        return cipher.doFinal(filled);
    }

    byte[] sign(int hash, byte[] message) throws GeneralSecurityException {
        Signature signer = Signature.getInstance(hash == 0 ? "SHA256withRSA" : "SHA224withRSA");
        signer.initSign(whole);
        signer.update(message);
        return signer.sign();
    }

    private Signature pss(int hash, int salt) throws GeneralSecurityException {
        Signature signer = Signature.getInstance("RSASSA-PSS");
        signer.setParameter(new PSSParameterSpec(digestName(hash), "MGF1", masks(hash), salt, 1));
        return signer;
    }

    byte[] salt(int hash, byte[] message, int salt) throws GeneralSecurityException {
        Signature signer = pss(hash, salt);
        signer.initSign(whole);
        signer.update(message);
        return signer.sign();
    }

    boolean taste(int hash, byte[] message, byte[] signature, int salt) throws GeneralSecurityException {
        Signature signer = pss(hash, salt);
        signer.initVerify(open);
        signer.update(message);
        return signer.verify(signature);
    }
}
